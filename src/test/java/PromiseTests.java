/**
 * One method for each promise of the document, with answers worked out by hand from its words:
 * ordinary inputs, the edges it names, wrong inputs and the order of the refusals.
 */
public final class PromiseTests {
    private static final int MIN = Integer.MIN_VALUE;
    private static final int MAX = Integer.MAX_VALUE;
    private static final long REFUSED = Long.MIN_VALUE + 101;
    private static final int HARD = 0;
    private static final int GREEDY = 1;
    private static final int RESTER = 2;
    private static final int SLACK = 3;
    private static final int MILD = 4;
    private static final int STRICT = 5;
    private static final int NO_LOCK = 3;

    private static int checks = 0;
    private static int wrong = 0;

    private static void due(int promise, String what, long got, long want) {
        checks++;
        if (got != want) {
            wrong++;
            System.out.println("promise " + promise + ": " + what + " answered " + got + ", due is " + want);
        }
    }

    // ---- helpers

    private static int add(GreedyServers x, int kind, int figure, int budget, int period) {
        x.keep(7, 1, kind, figure);
        return x.comes(7, budget, period);
    }

    private static GreedyServers with(int kind, int figure, int budget, int period) {
        GreedyServers x = new GreedyServers();
        add(x, kind, figure, budget, period);
        return x;
    }

    private static void write(GreedyServers x, int d, String text) {
        x.row(d, 0, text.length());
        for (int i = 0; i < text.length(); i++) {
            x.put(d, i, text.charAt(i));
        }
    }

    private static int say(GreedyServers x, String text) {
        write(x, 0, text);
        return x.text(0);
    }

    private static GreedyServers said(String text) {
        GreedyServers x = new GreedyServers();
        int statements = say(x, text);
        if (statements < 1) {
            wrong++;
            System.out.println("the test's own text has a fault: " + text + " " + statements);
        }
        return x;
    }

    private static void tell(GreedyServers x, int d, int sort, int... values) {
        x.row(d, sort, values.length);
        for (int i = 0; i < values.length; i++) {
            x.put(d, i, values[i]);
        }
    }

    /** 0 nothing is thrown, 1 IllegalArgumentException, 2 IllegalStateException. */
    private static int thrown(GreedyServers x, int d, int i) {
        try {
            x.element(d, i);
            return 0;
        } catch (IllegalArgumentException e) {
            return 1;
        } catch (IllegalStateException e) {
            return 2;
        }
    }

    // ---- the promises

    private static void newObject() {
        GreedyServers x = new GreedyServers();
        int[] told = {0, 0, 0, 0, 0, 0, -4, -4, -4};
        for (int what = 0; what < told.length; what++) {
            due(1, "count " + what, x.count(what), told[what]);
        }
        for (int d = 0; d < 8; d++) {
            due(1, "a SHELF holds nothing", x.cost(d), -11);
        }
        for (int t = 0; t < 4; t++) {
            due(1, "no TRAY", x.laid(t, 0), -11);
        }
        due(1, "no image", x.restore(), -3);
        due(1, "no server", x.server(0, 0), -1);
    }

    private static void text() {
        GreedyServers x = new GreedyServers();
        due(2, "no such shelf", x.text(-1), -1);
        due(2, "no such shelf", x.text(8), -1);
        due(2, "nothing", x.text(3), -11);
        x.keep(3, 1, HARD, 1);
        due(2, "a SORT", x.text(3), -12);
        x.row(3, 1, 4);
        due(2, "shorts", x.text(3), -12);
        x.row(3, 2, 4);
        due(2, "ints", x.text(3), -12);
        due(2, "empty", say(x, ""), -1000);
        due(2, "a byte that begins nothing", say(x, "x"), -1000);
        due(2, "a letter alone", say(x, "s"), -1001);
        due(2, "the end lacks", say(x, "s100210"), -1007);
        due(2, "no digit", say(x, "s1002x0;"), -1005);
        due(2, "a digit more", say(x, "s1002100;"), -1007);
        due(2, "behind a good one", say(x, "s100210;;"), -1008);
        due(2, "kind 1 ahead of kind 2", say(x, "t00;j003"), -1008);
        due(2, "j lacks", say(x, "j00;"), -1003);
        due(2, "t with a digit too many", say(x, "t010;"), -1003);
        due(2, "sign below 0", say(x, "/10;"), -1000);
        due(2, "sign just above 9", say(x, "t1:;"), -1002);
        due(2, "sign just below 0", say(x, "t1/;"), -1002);
        due(2, "t of 0", say(x, "t00;"), -2000);
        due(2, "t of 61", say(x, "t01;t61;"), -2004);
        due(2, "with a fault nothing comes", x.count(1), 0);
        due(2, "no such KIND", say(x, "s600210;"), -2000);
        due(2, "BUDGET 0", say(x, "s000010;"), -2000);
        due(2, "BUDGET 31", say(x, "s003160;"), -2000);
        due(2, "PERIOD no divisor", say(x, "s000107;"), -2000);
        due(2, "PERIOD 0", say(x, "s000100;"), -2000);
        due(2, "PERIOD below BUDGET", say(x, "s000605;"), -2000);
        due(2, "no such SERVER", say(x, "j053;"), -2000);
        due(2, "WORK 0", say(x, "s000110;j003;"), -2008);
        due(2, "LOCK 4", say(x, "s000110;j014;"), -2008);
        due(2, "no room for a JOB", say(x, "s000110;j013;j013;j013;j013;j013;"), -2028);
        due(2, "nothing came", x.count(0), 0);
        String six = "s000110;s100110;s200110;s300110;s400110;s500110;";
        due(2, "no room for a SERVER", say(x, six + "s000110;"), -2048);
        due(2, "six", say(x, six), 6);
        due(2, "they are there", x.count(0), 6);
        due(2, "the last one's KIND", x.server(5, 0), STRICT);
        x = new GreedyServers();
        due(2, "all STATEMENTS", say(x, "s291020;j093;t03;j110;"), -2017);
        due(2, "again", say(x, "s291020;j093;t03;j010;"), 4);
        due(2, "FIGURE", x.server(0, 1), 9);
        due(2, "BUDGET", x.server(0, 2), 10);
        due(2, "PERIOD", x.server(0, 3), 20);
        due(2, "TICK", x.count(1), 3);
        due(2, "WORK", x.job(0, 0, 0), 6);
        due(2, "a JOB that waits", x.job(0, 1, 1), 0);
        due(2, "the ROW stays", x.element(0, 0), 's');
        x = new GreedyServers();
        for (int i = 0; i < 166; i++) {
            x.ticks(60);
        }
        due(2, "TICK 9960", x.count(1), 9960);
        due(2, "TICK above 9999", say(x, "t39;t01;"), -2004);
        due(2, "TICK 9999", say(x, "t39;"), 1);
        due(2, "no TICK more", say(x, "t01;"), -2000);
    }

    private static void server() {
        GreedyServers x = with(GREEDY, 7, 6, 15);
        int[] first = {GREEDY, 7, 6, 15, 24, 10000, 0, 0, 0, 0, 0, 24};
        for (int what = 0; what < first.length; what++) {
            due(3, "new server " + what, x.server(0, what), first[what]);
        }
        x.ticks(4);
        x.sends(0, 3, 1);
        int[] ready = {GREEDY, 7, 6, 15, 24, 10360, 19, 1, 1, 0, 0, 24};
        for (int what = 0; what < ready.length; what++) {
            due(3, "server with a job " + what, x.server(0, what), ready[what]);
        }
        x.ticks(3);
        due(3, "LEFT pays its SHARE alone", x.server(0, 5), 10000 + 360 - 3 * 24);
        due(3, "LINGERING", x.server(0, 7), 3);
        due(3, "DONE", x.server(0, 10), 1);
        due(3, "no such", x.server(1, 0), -1);
        due(3, "no such", x.server(-1, 0), -1);
        due(3, "no such", x.server(MIN, 0), -1);
        due(3, "what", x.server(0, 12), -1);
        due(3, "what", x.server(0, -1), -1);
        due(3, "SHARE of PERIOD 1", with(HARD, 0, 1, 1).server(0, 4), 60);
        payments();
    }

    private static void payments() {
        // LOAD 20 of a HARD one with a job and, each in turn, one that is IDLE.
        GreedyServers x = said("s000412;s120210;s350210;s390206;s400210;s200210;j013;");
        due(3, "LOAD", x.count(2), 20);
        due(3, "HARD pays", x.server(0, 11), 60);
        due(3, "GREEDY pays LOAD", x.server(1, 11), 20);
        due(3, "SLACK pays FIGURE less", x.server(2, 11), 15);
        due(3, "SLACK pays at least its SHARE", x.server(3, 11), 20);
        due(3, "MILD pays half of both", x.server(4, 11), 40);
        due(3, "RESTER pays", x.server(5, 11), 60);
        x = said("s000505;s120110;s380110;s420110;s520110;s000505;j013;j513;");
        due(3, "LOAD above 60", x.count(2), 120);
        due(3, "GREEDY pays at most 60", x.server(1, 11), 60);
        due(3, "SLACK", x.server(2, 11), 52);
        due(3, "MILD", x.server(3, 11), 60);
        due(3, "STRICT", x.server(4, 11), 60);
        x = said("s000115;s100105;s400112;s390105;j013;");
        due(3, "GREEDY pays at least its SHARE", x.server(1, 11), 12);
        due(3, "MILD, cut", x.server(2, 11), 32);
        due(3, "SLACK at least its SHARE", x.server(3, 11), 12);
    }

    private static void job() {
        GreedyServers x = said("s000210;j022;j013;");
        due(4, "WORK", x.job(0, 0, 0), 2);
        due(4, "LOCK", x.job(0, 0, 1), 2);
        due(4, "HOLDS not yet", x.job(0, 0, 2), 0);
        due(4, "FIRST DEADLINE", x.job(0, 0, 3), 10);
        due(4, "one that waits", x.job(0, 1, 0), 1);
        due(4, "no LOCK", x.job(0, 1, 1), 3);
        due(4, "waits, HOLDS nothing", x.job(0, 1, 2), 0);
        due(4, "not the JOB now", x.job(0, 1, 3), -4);
        due(4, "no such JOB", x.job(0, 2, 0), -1);
        due(4, "no such JOB", x.job(0, -1, 0), -1);
        due(4, "no such SERVER", x.job(1, 0, 0), -1);
        due(4, "what", x.job(0, 0, 4), -1);
        due(4, "what", x.job(0, 0, -1), -1);
        x.ticks(1);
        due(4, "HOLDS", x.job(0, 0, 2), 1);
        x.ticks(1);
        // The budget is used up as the first JOB ends: the next one's FIRST DEADLINE is from ahead of the REFILL.
        due(4, "the next is the JOB now", x.job(0, 0, 0), 1);
        due(4, "its FIRST DEADLINE", x.job(0, 0, 3), 10);
        due(4, "the SERVER's DEADLINE", x.server(0, 6), 20);
        due(4, "HOLDS nothing", x.job(0, 0, 2), 0);
        x = said("s000510;j023;t01;");
        due(4, "none to HOLD", x.job(0, 0, 2), 0);
    }

    private static void comes() {
        GreedyServers x = new GreedyServers();
        due(5, "BUDGET ahead of SHELF", x.comes(9, 0, 10), -1);
        due(5, "no such SHELF", x.comes(8, 1, 10), -1);
        due(5, "no such SHELF", x.comes(-1, 1, 10), -1);
        due(5, "nothing", x.comes(2, 1, 10), -11);
        due(5, "BUDGET ahead of nothing", x.comes(2, 31, 60), -1);
        x.row(2, 0, 3);
        due(5, "a ROW", x.comes(2, 1, 10), -12);
        x.keep(2, 1, MILD, 6);
        int[] periods = {1, 2, 3, 4, 5, 6, 10, 12, 15, 20, 30, 60};
        int next = 0;
        for (int period = -1; period <= 61; period++) {
            boolean divides = next < periods.length && periods[next] == period;
            next += divides ? 1 : 0;
            due(5, "PERIOD " + period, x.admitted(1, period), divides ? 1 : -1);
        }
        due(5, "PERIOD below BUDGET", x.comes(2, 6, 5), -1);
        due(5, "BUDGET as PERIOD", x.comes(2, 5, 5), 0);
        due(5, "KIND", x.server(0, 0), MILD);
        due(5, "FIGURE", x.server(0, 1), 6);
        due(5, "greatest", x.comes(2, 30, 30), 1);
        for (int s = 2; s < 6; s++) {
            due(5, "its number", x.comes(2, 1, 60), s);
        }
        due(5, "no room", x.comes(2, 1, 60), -2);
        x.row(2, 0, 3);
        due(5, "a ROW ahead of no room", x.comes(2, 1, 60), -12);
        due(5, "the shelf keeps its SORT", with(HARD, 4, 1, 1).cost(7), 4);
    }

    private static void sends() {
        GreedyServers x = with(HARD, 0, 2, 10);
        due(6, "WORK 0", x.sends(0, 0, 0), -1);
        due(6, "WORK 10", x.sends(0, 10, 0), -1);
        due(6, "LOCK -1", x.sends(0, 1, -1), -1);
        due(6, "LOCK 4", x.sends(0, 1, 4), -1);
        due(6, "no such", x.sends(1, 1, 0), -1);
        for (int i = 1; i <= 4; i++) {
            due(6, "how many", x.sends(0, 9, 3), i);
        }
        due(6, "no room", x.sends(0, 1, 3), -2);
        due(6, "-1 ahead of no room", x.sends(0, 10, 3), -1);
        due(6, "a later JOB leaves LEFT", x.server(0, 5), 10120);

        // LINGERING with LEFT 180 of 240 at TICK 1, DEADLINE 10: 180 times 10 is below 240 times 9, it keeps both.
        x = said("s000410;j013;t01;");
        due(6, "LINGERING", x.server(0, 7), 3);
        x.sends(0, 1, 3);
        due(6, "LEFT is kept", x.server(0, 5), 10180);
        due(6, "DEADLINE is kept", x.server(0, 6), 10);
        // The same at TICK 2: 180 times 10 is below 240 times 8 = 1920, still.
        x = said("s000410;j013;t02;");
        x.sends(0, 1, 3);
        due(6, "kept at 2", x.server(0, 6), 10);
        // At TICK 3: 1800 is 240 times 7 = 1680 or more, so both are anew, though it LINGERS.
        x = said("s000410;j013;t03;");
        due(6, "LINGERS yet", x.server(0, 7), 3);
        x.sends(0, 1, 3);
        due(6, "LEFT anew", x.server(0, 5), 10240);
        due(6, "DEADLINE anew", x.server(0, 6), 13);
        due(6, "FIRST DEADLINE anew", x.job(0, 0, 3), 13);
        // LEFT 0 while it LINGERS: anew, too.
        x = said("s000210;j023;t02;");
        due(6, "LEFT 0", x.server(0, 5), 10000);
        x.sends(0, 1, 3);
        due(6, "LEFT 0 is filled", x.server(0, 5), 10120);
        due(6, "from t", x.server(0, 6), 12);
        // RESTING: the JOB waits, nothing else is so.
        x = said("s200110;j023;t01;");
        due(6, "RESTING", x.server(0, 7), 2);
        due(6, "waits", x.sends(0, 1, 3), 2);
        due(6, "RESTING yet", x.server(0, 7), 2);
        due(6, "LEFT", x.server(0, 5), 10000);
        due(6, "DEADLINE", x.server(0, 6), 10);
    }

    private static void drops() {
        GreedyServers x = said("s000210;s000230;j020;j013;j120;t01;");
        due(7, "held", x.count(6), 0);
        due(7, "no such", x.drops(2), -1);
        due(7, "no such", x.drops(-1), -1);
        due(7, "how many", x.drops(0), 2);
        due(7, "IDLE", x.server(0, 7), 0);
        due(7, "no JOBS", x.server(0, 8), 0);
        due(7, "LEFT stays", x.server(0, 5), 10060);
        due(7, "DEADLINE stays", x.server(0, 6), 10);
        due(7, "the LOCK is free", x.count(6), -4);
        due(7, "LOAD", x.count(2), 4);
        due(7, "runs itself", x.runs(1, 1), 1);
        due(7, "none", x.drops(0), 0);
        due(7, "anew as it was IDLE", x.sends(0, 1, 3), 1);
        due(7, "LEFT anew", x.server(0, 5), 10120);
        due(7, "DEADLINE anew", x.server(0, 6), 11);
        x = said("s000210;j013;t01;");
        due(7, "LINGERING", x.server(0, 7), 3);
        due(7, "of a LINGERING one", x.drops(0), 0);
        due(7, "IDLE", x.server(0, 7), 0);
    }

    private static void ticks() {
        GreedyServers x = with(HARD, 0, 1, 2);
        due(8, "0", x.ticks(0), -1);
        due(8, "61", x.ticks(61), -1);
        due(8, "least", x.ticks(MIN), -1);
        due(8, "greatest", x.ticks(MAX), -1);
        // WORK 9, FIRST DEADLINE 2: TICKS 0 and 1 are in time, the seven behind them LATE.
        x.sends(0, 9, 3);
        due(8, "in time", x.ticks(2), 0);
        due(8, "LATE at 2", x.ticks(1), 1);
        due(8, "LATE to the end", x.ticks(60), 7);
        due(8, "TICK", x.count(1), 63);
        for (int i = 0; i < 165; i++) {
            x.ticks(60);
        }
        due(8, "TICK", x.count(1), 9963);
        due(8, "above 9999", x.ticks(37), -3);
        due(8, "no TICK went", x.count(1), 9963);
        due(8, "to 9999", x.ticks(36), 7);
        due(8, "no more", x.ticks(1), -3);
        due(8, "-1 ahead of -3", x.ticks(61), -1);
        refills();
        earliest();
        locks();
        lateAndDoneAtMost();
    }

    private static void refills() {
        // LOAD 59: GREEDY 0 with LEFT 60 has 1 left, which is not 0 or less.
        GreedyServers y = said("s100160;s003060;s002860;j023;j113;j213;t01;");
        due(8, "LEFT 1", y.server(0, 5), 10001);
        due(8, "no REFILL", y.server(0, 6), 60);
        y.ticks(1);
        due(8, "LINGERING with LEFT -58", y.server(0, 5), 10000 - 58);
        y = said("s100160;s003060;s002860;j013;j113;j213;t01;j013;");
        due(6, "LEFT 1 stays", y.server(0, 5), 10001);
        GreedyServers x = said("s000205;j093;t02;");
        due(8, "HARD has more", x.server(0, 5), 10120);
        due(8, "HARD's DEADLINE", x.server(0, 6), 10);
        due(8, "HARD is READY", x.server(0, 7), 1);
        // GREEDY of SHARE 24 alone: 120 is used up in five TICKS.
        x = said("s100205;j093;t04;");
        due(8, "GREEDY pays 24", x.server(0, 5), 10024);
        x.ticks(1);
        due(8, "GREEDY has more", x.server(0, 5), 10120);
        due(8, "GREEDY's DEADLINE", x.server(0, 6), 10);
        // MILD of SHARE 24 alone pays 42: 120, 78, 36, -6 and 120 more.
        x = said("s400205;j093;t03;");
        due(8, "MILD is below 0 and has more", x.server(0, 5), 10114);
        // RESTER: RESTING till TICK 5 begins.
        x = said("s200205;j093;t02;");
        due(8, "RESTING", x.server(0, 7), 2);
        due(8, "nobody READY", x.count(3), 0);
        due(8, "RESTING is ACTIVE", x.count(2), 24);
        x.ticks(3);
        due(8, "RESTING at 5", x.server(0, 7), 2);
        due(8, "WORK stays", x.job(0, 0, 0), 7);
        x.ticks(1);
        due(8, "READY in TICK 5", x.server(0, 7), 1);
        due(8, "LEFT", x.server(0, 5), 10060);
        due(8, "DEADLINE", x.server(0, 6), 10);
        due(8, "LATE in TICK 5", x.server(0, 9), 1);
        // A JOB that ends as LEFT does: no REFILL, it LINGERS, and is IDLE in the TICK of its DEADLINE.
        x = said("s200205;j023;t02;");
        due(8, "LINGERING", x.server(0, 7), 3);
        x.ticks(3);
        due(8, "LINGERING at 5", x.server(0, 7), 3);
        x.ticks(1);
        due(8, "IDLE in TICK 5", x.server(0, 7), 0);
        due(8, "LEFT stays", x.server(0, 5), 10000);
        // LINGERING with LEFT 180 of 240: 240 times (10 less t) is 1800 or less at 3 first (1680).
        x = said("s000410;j013;t03;");
        due(8, "LINGERING", x.server(0, 7), 3);
        x.ticks(1);
        due(8, "IDLE", x.server(0, 7), 0);
    }

    private static void earliest() {
        GreedyServers x = said("s000320;s000310;s000310;j013;j113;j213;t01;");
        due(8, "earliest, the least number", x.server(1, 10), 1);
        x.ticks(1);
        due(8, "then its equal", x.server(2, 10), 1);
        x.ticks(1);
        due(8, "then the later", x.server(0, 10), 1);
    }

    private static void locks() {
        // 0 takes LOCK 1 and RESTS; 1 waits for it and pays for 0's JOB.
        GreedyServers x = said("s200110;s000530;j031;j191;t01;");
        due(8, "HOLDS", x.count(7), 0);
        due(8, "RESTING", x.server(0, 7), 2);
        due(8, "1 is chosen", x.runs(1, 0), 1);
        due(8, "0's JOB runs", x.runs(1, 1), 0);
        x.ticks(1);
        due(8, "0's WORK", x.job(0, 0, 0), 1);
        due(8, "1's WORK", x.job(1, 0, 0), 9);
        due(8, "1 pays", x.server(1, 5), 10240);
        due(8, "0 pays nothing", x.server(0, 5), 10000);
        x.ticks(1);
        due(8, "0's JOB is DONE", x.server(0, 10), 1);
        due(8, "0 LINGERS, though it was RESTING", x.server(0, 7), 3);
        due(8, "the LOCK is free", x.count(7), -4);
        x.ticks(1);
        due(8, "1 HOLDS it now", x.count(7), 1);
        // RESTING with another JOB behind: it stays RESTING, and the next is its JOB now.
        x = said("s200110;s000530;j021;j023;j191;t02;");
        due(8, "DONE", x.server(0, 10), 1);
        due(8, "RESTING yet", x.server(0, 7), 2);
        due(8, "the next", x.job(0, 0, 1), 3);
        due(8, "its FIRST DEADLINE", x.job(0, 0, 3), 10);
        // 0's JOB (FIRST DEADLINE 4) is LATE in TICKS 4 and 5, in which 1 pays for it: LATE is its owner.
        x = said("s200104;s200330;s000360;j061;j191;t01;");
        due(8, "0 RESTS", x.server(0, 7), 2);
        x.ticks(3);
        due(8, "0's WORK, on 1's budget", x.job(0, 0, 0), 2);
        due(8, "1 RESTS, too", x.server(1, 7), 2);
        due(8, "nobody is LATE yet", x.count(5), 0);
        x.sends(2, 9, 1);
        x.ticks(1);
        due(8, "0 is READY in TICK 4 and RESTS behind it", x.server(0, 7), 2);
        due(8, "0 is LATE", x.server(0, 9), 1);
        due(8, "2 is chosen", x.runs(1, 0), 2);
        due(8, "for 0's JOB", x.runs(1, 1), 0);
        x.ticks(1);
        due(8, "0 is LATE again, though 2 was chosen", x.server(0, 9), 2);
        due(8, "2 is not", x.server(2, 9), 0);
        due(8, "0 is DONE", x.server(0, 10), 1);
        // LOCKS of another number hinder nobody.
        x = said("s200110;s000530;j031;j192;t02;");
        due(8, "1 runs its own", x.job(1, 0, 0), 8);
    }

    private static void lateAndDoneAtMost() {
        GreedyServers x = with(HARD, 0, 1, 1);
        write(x, 0, "j093;j093;j093;j093;t40;");
        for (int i = 0; i < 26; i++) {
            x.text(0);
        }
        // Each time LATE are 8 of the first JOB; each later one begins with the DEADLINE of its TICK.
        int late = x.server(0, 9);
        due(8, "LATE so far", late, x.count(5));
        while (x.server(0, 9) < 999 && x.count(1) < 9000) {
            x.text(0);
        }
        due(8, "LATE 999", x.server(0, 9), 999);
        x.text(0);
        due(8, "LATE 999 at most", x.server(0, 9), 999);
        due(12, "never LATE more", x.misses(0), -4);
        x = with(HARD, 0, 1, 1);
        write(x, 0, "j013;j013;j013;j013;t04;j013;j013;j013;j013;t04;j013;j013;j013;j013;t04;");
        for (int i = 0; i < 83; i++) {
            x.text(0);
        }
        due(8, "DONE", x.server(0, 10), 996);
        x.text(0);
        due(8, "DONE 999 at most", x.server(0, 10), 999);
    }

    private static void then() {
        GreedyServers x = said("s000205;j093;j043;");
        due(9, "WORK now", x.then(0, 0, 0), 13);
        due(9, "WORK 5 on", x.then(0, 5, 0), 8);
        due(9, "LEFT 3 on", x.then(0, 3, 1), 10060);
        due(9, "DEADLINE 3 on", x.then(0, 3, 2), 10);
        due(9, "STATE 13 on", x.then(0, 13, 3), 3);
        // WORK 9 by FIRST DEADLINE 5: TICKS 5 .. 8 are LATE; the next begins with DEADLINE 25.
        due(9, "LATE 99 on", x.then(0, 99, 4), 4);
        due(9, "DONE 99 on", x.then(0, 99, 5), 2);
        due(9, "TICK is as it was", x.count(1), 0);
        due(9, "JOBS are as they were", x.count(4), 2);
        due(9, "n 100", x.then(0, 100, 0), -1);
        due(9, "n -1", x.then(0, -1, 0), -1);
        due(9, "what 6", x.then(0, 0, 6), -1);
        due(9, "what -1", x.then(0, 0, -1), -1);
        due(9, "no such", x.then(1, 0, 0), -1);
        for (int i = 0; i < 166; i++) {
            x.ticks(60);
        }
        x.ticks(39);
        x.sends(0, 2, 3);
        due(9, "TICK no matter", x.then(0, 99, 5), 3);
    }

    private static void runs() {
        GreedyServers x = said("s200110;s000530;j031;j191;");
        due(10, "first", x.runs(1, 0), 0);
        due(10, "first", x.runs(1, 1), 0);
        due(10, "second", x.runs(2, 0), 1);
        due(10, "second, on another's budget", x.runs(2, 1), 0);
        due(10, "fourth", x.runs(4, 1), 1);
        due(10, "last", x.runs(12, 0), 1);
        due(10, "nobody", x.runs(13, 0), -4);
        due(10, "nobody's", x.runs(99, 1), -4);
        due(10, "0", x.runs(0, 0), -1);
        due(10, "100", x.runs(100, 0), -1);
        due(10, "what", x.runs(1, 2), -1);
        due(10, "what", x.runs(1, -1), -1);
    }

    private static void quiet() {
        GreedyServers x = said("s000410;j013;");
        due(11, "QUIET", x.quiet(0), 1);
        due(11, "FREE: in TICK 3", x.quiet(1), 4);
        x.ticks(1);
        due(11, "QUIET now", x.quiet(0), 0);
        due(11, "FREE", x.quiet(1), 3);
        due(11, "what", x.quiet(2), -1);
        due(11, "what", x.quiet(-1), -1);
        x = said("s200160;j023;");
        due(11, "QUIET at 61", x.quiet(0), 61);
        // LEFT 0 with DEADLINE 120 then: not FREE within 99.
        due(11, "not FREE", x.quiet(1), -4);
        x = said("s200160;j033;");
        due(11, "not QUIET", x.quiet(0), -4);
        x = said("s000160;j093;");
        due(11, "WORK 9 by refills", x.quiet(0), 9);
        x = said("s200130;j043;t01;");
        due(11, "the last at 90", x.quiet(0), 90);
        x = said("s200120;j063;t01;");
        due(11, "the last in TICK 100, behind 100", x.quiet(0), -4);
        x.ticks(1);
        due(11, "behind 99", x.quiet(0), 99);
    }

    private static void misses() {
        GreedyServers x = said("s000205;s000110;j093;j193;");
        // 0 runs in TICKS 0 .. 3 (DEADLINE 5, 10), ties with 1's 10 go to 0: 4, 5 too; then 15 is behind 1's 10.
        due(12, "0 is LATE in TICK 5 first", x.misses(0), 6);
        due(12, "FIRST", x.misses(-1), 0);
        due(12, "no such", x.misses(2), -1);
        due(12, "below -1", x.misses(-2), -1);
        due(12, "least", x.misses(MIN), -1);
        x = said("s000505;s000102;j013;j133;");
        // 1: WORK 3 by 2; it runs in TICK 0, has DEADLINE 4 and runs in 1, then 6: 0 runs in 2, 1 in TICK 3.
        due(12, "1", x.misses(1), 4);
        due(12, "0 never", x.misses(0), -4);
        due(12, "FIRST 1", x.misses(-1), 1);
        x.ticks(60);
        due(12, "none more", x.misses(1), -4);
        due(12, "none FIRST", x.misses(-1), -4);
        due(12, "no SERVERS", new GreedyServers().misses(-1), -4);
        x = said("s200160;j033;t50;t48;");
        // RESTING till TICK 120 with one to go, LATE there; TICK 98 now: behind 23.
        due(12, "far", x.misses(0), 23);
        x = said("s200160;j023;");
        due(12, "in TICK 60", x.misses(0), 61);
        due(12, "who is", x.misses(-1), 0);
        x.then(0, 99, 0);
        due(12, "begins anew with each call", x.misses(0), 61);
        x.then(0, 99, 0);
        due(12, "begins anew with each call", x.misses(-1), 0);
        missesFar();
    }

    private static void missesFar() {
        // 0's second JOB has FIRST DEADLINE 60, its SERVER DEADLINE 120; three others keep ahead of it.
        GreedyServers x = said("s000160;s000101;s000101;s000101;j013;j013;t01;");
        for (int i = 0; i < 11; i++) {
            x.sends(1 + i % 3, i < 10 ? 9 : 8, NO_LOCK);
        }
        due(12, "98 TICKS of WORK ahead", x.then(1, 0, 0) + x.then(2, 0, 0) + x.then(3, 0, 0), 98);
        due(12, "behind 99", x.misses(0), 99);
        x.sends(3, 1, NO_LOCK);
        due(12, "behind 100", x.misses(0), -4);
    }

    private static void ran() {
        GreedyServers x = said("s200110;s000530;j031;j191;");
        due(13, "RAN 0", x.ran(0, 99, 0), 3);
        due(13, "PAID 0", x.ran(0, 99, 1), 1);
        due(13, "RAN 1", x.ran(1, 99, 0), 9);
        due(13, "PAID 1", x.ran(1, 99, 1), 11);
        due(13, "of 2 TICKS", x.ran(0, 2, 0), 2);
        due(13, "of none", x.ran(0, 0, 0), 0);
        due(13, "100", x.ran(0, 100, 0), -1);
        due(13, "-1", x.ran(0, -1, 0), -1);
        due(13, "what", x.ran(0, 1, 2), -1);
        due(13, "no such", x.ran(2, 1, 0), -1);
        due(13, "no such", x.ran(-1, 1, 0), -1);
    }

    private static void admitted() {
        GreedyServers x = said("s000210;s100205;");
        due(14, "12 and 24 and 24", x.admitted(2, 5), 1);
        due(14, "12 and 24 and 25", x.admitted(5, 12), 0);
        due(14, "12 and 24 and 20", x.admitted(4, 12), 1);
        due(14, "more", x.admitted(5, 10), 0);
        due(14, "BUDGET 0", x.admitted(0, 10), -1);
        due(14, "BUDGET 31", x.admitted(31, 60), -1);
        due(14, "PERIOD", x.admitted(1, 8), -1);
        due(14, "PERIOD 0", x.admitted(1, 0), -1);
        due(14, "PERIOD 120", x.admitted(1, 120), -1);
        due(14, "PERIOD below 0", x.admitted(1, -60), -1);
        due(14, "PERIOD below BUDGET", x.admitted(3, 2), -1);
        due(14, "all of it", new GreedyServers().admitted(1, 1), 1);
    }

    private static void demand() {
        GreedyServers x = said("s000210;s100305;");
        due(15, "4", x.demand(4, 0), 0);
        due(15, "5", x.demand(5, 0), 3);
        due(15, "19", x.demand(19, 0), 2 + 9);
        due(15, "99", x.demand(99, 0), 18 + 57);
        due(15, "FITS", x.demand(99, 1), 1);
        due(15, "0", x.demand(0, 0), -1);
        due(15, "100", x.demand(100, 0), -1);
        due(15, "what", x.demand(1, 2), -1);
        due(15, "what", x.demand(1, -1), -1);
        // SHARES 36 and 30: 10 TICKS ask for 11, though 11 fit in 11 again.
        x = said("s000305;s100510;");
        due(15, "fits in 9", x.demand(9, 1), 1);
        due(15, "not in 10", x.demand(10, 1), 0);
        due(15, "11 alone would", x.demand(11, 0), 11);
        due(15, "but not all of 1 .. 11", x.demand(11, 1), 0);
        x = said("s000101;");
        due(15, "1 in 1", x.demand(1, 0), 1);
        due(15, "just fits", x.demand(1, 1), 1);
        due(15, "99 in 99", x.demand(99, 1), 1);
        add(x, GREEDY, 0, 1, 1);
        due(15, "2 in 1", x.demand(1, 0), 2);
        due(15, "does not", x.demand(1, 1), 0);
    }

    private static void needs() {
        // WORK 4 by 10, a rival with DEADLINE 5 that takes its first TICK: alone it runs 1 .. 4 with BUDGET 1 too.
        GreedyServers x = said("s200510;j043;");
        due(16, "any", x.needs(0, 60), 1);
        // RESTER with LEFT 60: RESTING behind one TICK; DEADLINE 10, then its BUDGET counts, but it is LATE then.
        x = said("s200110;j043;");
        due(16, "LATE at any", x.needs(0, 60), -4);
        due(16, "not LATE in 10", x.needs(0, 10), 1);
        due(16, "LATE in 11", x.needs(0, 11), -4);
        due(16, "n 0", x.needs(0, 0), 1);
        due(16, "n 61", x.needs(0, 61), -1);
        due(16, "n -1", x.needs(0, -1), -1);
        due(16, "no such", x.needs(1, 0), -1);
        due(16, "BUDGET stays", x.server(0, 2), 1);
        needsMore();
    }

    private static void needsMore() {
        // Two RESTERS. 0 has LEFT 60 of its first JOB's time; its second JOB's FIRST DEADLINE is 20 if it is
        // its JOB now behind the REFILL at 10: WORK 1, then 5 with FIRST DEADLINE 10, LATE from TICK 10 on.
        GreedyServers x = said("s200110;j013;j053;t01;");
        due(16, "its JOB now's FIRST DEADLINE", x.job(0, 0, 3), 10);
        due(16, "LATE whatever it is", x.needs(0, 30), -4);
        // HARD with LEFT 60, DEADLINE 6; a rival with DEADLINE 12. JOB of WORK 5 by 6.
        // BUDGET 1: behind TICK 0 DEADLINE is 12, a tie, 0 is the least: runs 1; then 18, the rival runs.
        // BUDGET 4: LEFT 240 behind TICK 0: runs 1 .. 4, and is through.
        x = said("s000106;s000912;j053;j193;");
        due(16, "as much as it takes", x.needs(0, 60), 4);
        due(16, "within 6 it is never LATE", x.needs(0, 6), 1);
        // PERIOD 2, JOBS of WORK 2 and 1 (FIRST DEADLINES 2 and 4), a rival with WORK 2 by 5: with BUDGET 1 the
        // rival runs in TICKS 2, 3; with 2 the second JOB is ahead of it.
        x = said("s000102;s000505;j023;j013;j123;");
        due(16, "BUDGET as PERIOD", x.needs(0, 10), 2);
        // The second JOB of WORK 2: BUDGET 3 would do, but is above PERIOD.
        x = said("s000102;s000505;j023;j023;j123;");
        due(16, "not above PERIOD", x.needs(0, 10), -4);
    }

    private static void alone() {
        GreedyServers x = said("s000106;s000912;j053;j193;");
        due(17, "with others", x.then(0, 60, 4), 3);
        due(17, "ALONE", x.alone(0, 60), 0);
        due(17, "the other ALONE", x.alone(1, 60), 0);
        x = said("s000102;j093;t03;");
        due(17, "LATE now", x.server(0, 9), 1);
        due(17, "LATE more alone", x.alone(0, 60), 6);
        due(17, "n 0", x.alone(0, 0), 0);
        due(17, "n 61", x.alone(0, 61), -1);
        due(17, "n -1", x.alone(0, -1), -1);
        due(17, "no such", x.alone(1, 0), -1);
        due(17, "no such", x.alone(-1, 0), -1);
        // A RESTING holder of the LOCK: without it one's own JOB runs at once.
        x = said("s200110;s000202;j091;t01;j121;");
        due(17, "waits for the holder", x.then(1, 10, 4) > 0 || x.then(1, 10, 0) > 0 ? 1 : 0, 1);
        due(17, "the LOCK is free alone", x.alone(1, 60), 0);
        due(17, "the others are as they were", x.server(0, 8), 1);
    }

    private static void kindBest() {
        // RESTER: 1 .. of WORK 2 by 10; LEFT 60. HARD would not wait.
        GreedyServers x = said("s200110;j023;");
        due(18, "LATE as it is", x.then(0, 60, 4), 1);
        due(18, "HARD", x.kindBest(0, 60, 0), HARD);
        due(18, "LATE", x.kindBest(0, 60, 1), 0);
        due(18, "n 0", x.kindBest(0, 0, 0), HARD);
        due(18, "n 61", x.kindBest(0, 61, 0), -1);
        due(18, "n -1", x.kindBest(0, -1, 0), -1);
        due(18, "what", x.kindBest(0, 1, 2), -1);
        due(18, "no such", x.kindBest(1, 1, 0), -1);
        due(18, "KIND stays", x.server(0, 0), RESTER);
        // Of the issue's own run: 1 as GREEDY is best of all.
        x = said("s000412;s130215;s200312;s320430;s400110;s500220;j040;j150;j233;j391;j431;");
        due(18, "0", x.kindBest(0, 40, 0), HARD);
        due(18, "1", x.kindBest(1, 40, 0), GREEDY);
        due(18, "LATE of all", x.kindBest(1, 40, 1), 1);
        // LATE of now counts, too.
        x = said("s000102;j093;t05;");
        due(18, "LATE now", x.count(5), 3);
        due(18, "together with LATE now", x.kindBest(0, 60, 1), 7);
    }

    private static void send() {
        // 0 keeps 1 from its JOB: without 0's JOB it is in time.
        GreedyServers x = said("s000303;s000306;j093;j163;");
        due(19, "LATE of 1 with them", x.then(1, 60, 4) > 0 ? 1 : 0, 1);
        due(19, "0 goes", x.send(60), 0);
        due(19, "n 0", x.send(0), -4);
        due(19, "n 61", x.send(61), -1);
        due(19, "n -1", x.send(-1), -1);
        due(19, "JOBS are as they were", x.count(4), 2);
        due(19, "no SERVERS", new GreedyServers().send(60), -4);
        x = said("s000303;j093;");
        due(19, "one alone: none", x.send(60), -4);
        // Two in the way: without 0 (WORK 9) 2 is in time (WORK 2 and 3 by 6), without 1 (WORK 2) it is LATE.
        x = said("s000202;s000303;s000306;j133;j093;j233;");
        due(19, "LATE of 2 with them", x.then(2, 60, 4) > 0 ? 1 : 0, 1);
        due(19, "the one that helps the most", x.send(60), 0);
        // LATE of one's own does not count: 1 is LATE by itself, and nobody else is.
        x = said("s000930;s000102;j193;");
        due(19, "LATE of 1", x.then(1, 60, 4), 7);
        due(19, "none is better for others", x.send(60), -4);
        // LATE are 0 by 3 (RESTING, in TICKS 15, 30, 45) and 1 by 2 (2 runs ahead of it). Without 0 LATE of the
        // others is 2, the least of all, but so it is with it; without 2 it is 3, and 5 with it.
        x = said("s200115;s000306;s000505;j093;j133;j253;");
        due(19, "LATE of 0", x.then(0, 60, 4), 3);
        due(19, "LATE of 1", x.then(1, 60, 4), 2);
        due(19, "less than with them", x.send(60), 2);
        // 0 has WORK 4 by 6: behind 2 and 3 of the others it is LATE by 3, behind 3 by 1, behind 2 in time.
        x = said("s000406;s000505;s000505;j043;j123;j233;");
        due(19, "LATE of 0", x.then(0, 60, 4), 3);
        due(19, "the one that helps the most", x.send(60), 2);
        x = said("s000306;s000404;s000404;j033;j123;j223;");
        due(19, "LATE of 0", x.then(0, 60, 4), 1);
        due(19, "of several the least", x.send(60), 1);
    }

    private static void load() {
        GreedyServers x = said("s000410;s000530;j013;j113;");
        due(20, "now", x.load(0), 34);
        due(20, "the first as it is now", x.load(1), 34);
        // 0 ends in TICK 0 and is IDLE in TICK 3: LOAD is 10 ahead of the fifth TICK.
        due(20, "ahead of four", x.load(4), 34);
        due(20, "ahead of five", x.load(5), 10);
        due(20, "in the end", x.load(99), 0);
        due(20, "100", x.load(100), -1);
        due(20, "-1", x.load(-1), -1);
        due(20, "nothing", new GreedyServers().load(99), 0);
    }

    private static void whoRan() {
        GreedyServers x = said("s200110;s000530;j033;j133;");
        due(21, "no such SHELF", x.whoRan(8, 0, 0), -1);
        due(21, "no such SERVER", x.whoRan(1, 2, 0), -1);
        due(21, "what", x.whoRan(1, 0, 2), -1);
        due(21, "nothing", x.whoRan(1, 0, 0), -11);
        due(21, "-1 ahead of -11", x.whoRan(1, -1, 0), -1);
        x.keep(1, 1, HARD, 0);
        due(21, "a SORT", x.whoRan(1, 0, 0), -12);
        x.row(1, 2, 0);
        due(21, "nothing told: all KINDS", x.whoRan(1, 0, 0), 63);
        due(21, "nothing told: all FIGURES", x.whoRan(1, 0, 1), 1023);
        // A RESTER's JOB runs in TICK 0, then 1's three times, then nobody's till TICK 10.
        tell(x, 1, 0, 0, 1, 1, 1, 6);
        due(21, "RESTER and STRICT", x.whoRan(1, 0, 0), 1 << RESTER | 1 << STRICT);
        // HARD ones have DEADLINE 20, ahead of 1's 30, and then 30, a tie, which is 0's.
        tell(x, 1, 1, 0, 0, 0, 1, 1);
        due(21, "all others", x.whoRan(1, 0, 0), 1 << HARD | 1 << GREEDY | 1 << SLACK | 1 << MILD);
        due(21, "but it is a RESTER", x.whoRan(1, 0, 1), 0);
        tell(x, 1, 1, 0, -32768, -32768, 1);
        due(21, "skipped", x.whoRan(1, 0, 0), 63);
        tell(x, 1, 0, 0, -128);
        due(21, "skipped bytes", x.whoRan(1, 0, 1), 1023);
        tell(x, 1, 2, 0, MIN);
        due(21, "skipped ints", x.whoRan(1, 0, 1), 1023);
        tell(x, 1, 2, 0, -128);
        due(21, "-128 of ints is not skipped", x.whoRan(1, 0, 1), 0);
        tell(x, 1, 2, 7);
        due(21, "no such one", x.whoRan(1, 0, 0), 0);
        due(21, "KIND stays", x.server(0, 0), RESTER);
        figures();
    }

    private static void figures() {
        // SLACK of SHARE 12 with LEFT 60 and LOAD 30 pays 30 less FIGURE: with 0 its 60 are used up behind two TICKS
        // and 60 more behind four, DEADLINE 15 then; with more FIGURE it takes longer. 1 has DEADLINE 10.
        GreedyServers x = said("s390105;s000310;j093;j113;");
        due(21, "LOAD", x.count(2), 30);
        tell(x, 1, 0, 0, 0, 0, 0, 1);
        due(21, "FIGURE 0 alone", x.whoRan(1, 0, 1), 1);
        // 5 TICKS, 1 in the sixth: 60 used up behind 3 (20 .. 29 a TICK), 60 more behind 5: 24 or more a TICK,
        // and below 30: FIGURES 1 .. 6. Less than that lasts for a sixth TICK.
        tell(x, 1, 0, 0, 0, 0, 0, 0, 1);
        due(21, "FIGURES 1 .. 6", x.whoRan(1, 0, 1), 0x7e);
    }

    /**
     * A SLACK one with LEFT 134 at TICK 2 as RESTER or STRICT: it RESTS with -46 till TICK 10, has 240 or 194 then,
     * ends its JOB in that TICK and LINGERS with 180 till TICK 13, with 134 till TICK 15. So in TICKS 13 and 14
     * LOAD is 36 or 60, which GREEDY 1 pays from its 120: the STRICT one lets it come to 0, and 2 runs in TICK 15.
     */
    private static void resterOrStrict() {
        GreedyServers x = said("s370410;s100620;s100310;j063;j293;j183;t02;");
        due(21, "LEFT", x.server(0, 5), 10134);
        x.row(1, 0, 14);
        for (int i = 0; i < 13; i++) {
            x.put(1, i, -128);
        }
        x.put(1, 13, 1);
        due(21, "a RESTER, no STRICT one", x.whoRan(1, 0, 0) & (1 << RESTER | 1 << STRICT), 1 << RESTER);
        x.put(1, 13, 2);
        due(21, "a STRICT one, no RESTER", x.whoRan(1, 0, 0) & (1 << RESTER | 1 << STRICT), 1 << STRICT);
    }

    private static void two() {
        GreedyServers x = said("s000530;s000530;");
        due(22, "both send", x.two(0, 1, 60), 11);
        due(22, "one twice", x.two(0, 0, 60), -1);
        due(22, "no such", x.two(0, 2, 60), -1);
        due(22, "no such", x.two(-1, 0, 60), -1);
        due(22, "n 0", x.two(0, 1, 0), -1);
        due(22, "n 61", x.two(0, 1, 61), -1);
        due(22, "nothing came", x.count(4), 0);
        // PERIOD 1, BUDGET 1: WORK 5 is LATE by 4 alone: 4 less 4 is no more than 0, so neither sends.
        x = said("s000101;s000101;");
        due(22, "neither", x.two(0, 1, 60), 0);
        // PERIOD 2: LATE by 3 alone, 4 less 3 is more than nothing; both at once are LATE by more.
        x = said("s000202;s000530;");
        due(22, "both", x.two(0, 1, 60), 11);
        x = said("s000530;s000101;");
        due(22, "the one", x.two(0, 1, 60), 10);
        due(22, "the other", x.two(1, 0, 60), 1);
        x = said("s000530;s000530;j013;j013;j013;j013;");
        due(22, "no room", x.two(0, 1, 60), -2);
        due(22, "no room", x.two(1, 0, 60), -2);
        due(22, "-1 ahead of no room", x.two(0, 1, 61), -1);
        x = said("s000530;s000202;");
        due(22, "the other is LATE by 3, and has 1", x.two(0, 1, 60), 11);
        due(22, "in 1 TICK", x.two(0, 1, 1), 11);
        // 0 is LATE by 2 in any case, and by 3 more with another JOB: 4 less 5 is more than less 2.
        // 1's other JOB would be LATE by 5: 4 less 5 is below 0.
        x = said("s000404;s000101;j053;j113;");
        due(22, "LATE in any case", x.then(0, 60, 4), 2);
        due(22, "the one", x.two(0, 1, 60), 10);
        // 1's JOB would be LATE by 4, it has as much either way: (0, 1) is ahead of (1, 0), and by it 0 has less
        // for sending (LATE by 11 in place of 6).
        x = said("s000303;s000101;j073;");
        due(22, "the first pair", x.two(0, 1, 60), 1);
    }

    private static void breaks() {
        // WORK 2 by DEADLINE 2: LATE as soon as one of the first two TICKS breaks (and a TICK behind is whole).
        GreedyServers x = said("s000202;j023;");
        due(23, "2 TICKS", x.breaks(0, 2, 3, 0), 0);
        due(23, "2 TICKS, below", x.breaks(0, 2, 3, 1), 1);
        // In 3: LATE with one break in the first two (2 times 1/3 times 2/3) or both, and the third whole:
        // (1 less 4/9) times 2/3 is 10/27.
        due(23, "3 TICKS", x.breaks(0, 3, 3, 0), 10);
        due(23, "3 TICKS, below", x.breaks(0, 3, 3, 1), 27);
        due(23, "odds 1 in 2: 3/4 times 1/2", x.breaks(0, 3, 2, 0), 3);
        due(23, "below", x.breaks(0, 3, 2, 1), 8);
        // In 4: LATE unless the first two are whole, or all that is behind is broken: with 1 in 2
        // 3/4 times 3/4.
        due(23, "4 TICKS", x.breaks(0, 4, 2, 0), 9);
        due(23, "below", x.breaks(0, 4, 2, 1), 16);
        due(23, "no TICKS", x.breaks(0, 0, 2, 0), 0);
        due(23, "no TICKS, below", x.breaks(0, 0, 2, 1), 1);
        x.ticks(1);
        // One to go by 2 at TICK 1: LATE if it breaks and not all the six behind: (1 less 1/20^6) by 20.
        due(23, "7 TICKS", x.breaks(0, 7, 20, 0), 63999999L);
        due(23, "7 TICKS, below", x.breaks(0, 7, 20, 1), 1280000000L);
        due(23, "n 8", x.breaks(0, 8, 2, 0), REFUSED);
        due(23, "n -1", x.breaks(0, -1, 2, 0), REFUSED);
        due(23, "t 1", x.breaks(0, 1, 1, 0), REFUSED);
        due(23, "t 21", x.breaks(0, 1, 21, 0), REFUSED);
        due(23, "part 2", x.breaks(0, 1, 2, 2), REFUSED);
        due(23, "part -1", x.breaks(0, 1, 2, -1), REFUSED);
        due(23, "no such", x.breaks(1, 1, 2, 0), REFUSED);
        x = said("s000101;j093;t01;");
        due(23, "LATE for sure", x.breaks(0, 1, 4, 0), 3);
        due(23, "but for a break", x.breaks(0, 1, 4, 1), 4);
        due(23, "TICK is as it was", x.count(1), 1);
    }

    private static void share() {
        GreedyServers x = said("s000210;s000115;s000530;j013;j113;");
        due(24, "12 by 16", x.share(0, 0), 3);
        due(24, "12 by 16", x.share(0, 1), 4);
        due(24, "4 by 16", x.share(1, 0), 1);
        due(24, "4 by 16", x.share(1, 1), 4);
        due(24, "IDLE", x.share(2, 0), 0);
        due(24, "IDLE", x.share(2, 1), 1);
        x.drops(1);
        due(24, "all of it", x.share(0, 0), 1);
        due(24, "all of it", x.share(0, 1), 1);
        x.drops(0);
        due(24, "no LOAD", x.share(0, 0), 0);
        due(24, "no LOAD", x.share(0, 1), 1);
        due(24, "no such", x.share(3, 0), REFUSED);
        due(24, "part", x.share(0, 2), REFUSED);
        due(24, "part", x.share(0, -1), REFUSED);
    }

    private static void bits() {
        int[] periods = {1, 2, 3, 4, 5, 6, 10, 12, 15, 20, 30, 60};
        for (int period : periods) {
            for (int budget = 1; budget <= 30 && budget <= period; budget++) {
                GreedyServers x = with(HARD, 0, budget, period);
                due(25, budget + " by " + period, x.bits(0), Float.floatToIntBits((float) budget / period));
            }
        }
        due(25, "1", with(HARD, 0, 1, 1).bits(0), 0x3f800000);
        due(25, "no such", with(HARD, 0, 1, 1).bits(1), -1);
        due(25, "no such", new GreedyServers().bits(0), -1);
        due(25, "no such", new GreedyServers().bits(-1), -1);
    }

    private static void wide() {
        // SLACK and MILD ones pay odd numbers: every LEFT on the way down is looked at.
        for (int kind = 0; kind < 6; kind++) {
            for (int budget = 1; budget <= 30; budget += 4) {
                GreedyServers x = said(String.format("s%d7%02d60;s000130;s000260;j093;j093;j193;j293;", kind, budget));
                for (int i = 0; i < 30; i++) {
                    due(26, "LEFT " + x.server(0, 5), x.wide(0), Double.doubleToLongBits((x.server(0, 5) - 10000) / 60.0));
                    x.ticks(1);
                }
            }
        }
        // MILD of SHARE 24 alone pays 42 a TICK; its JOB ends with LEFT -6.
        GreedyServers x = said("s400205;j033;t03;");
        due(26, "LEFT", x.server(0, 5), 9994);
        due(26, "below 0", x.wide(0), Double.doubleToLongBits(-0.1));
        due(26, "0", with(HARD, 0, 1, 1).wide(0), 0);
        due(26, "no such", x.wide(1), REFUSED);
        due(26, "no such", x.wide(-1), REFUSED);
    }

    private static void forged() {
        GreedyServers x = said("s000210;s000530;j013;j113;");
        due(27, "no such SHELF", x.forged(8), -1);
        due(27, "no such SHELF", x.forged(-1), -1);
        due(27, "nothing", x.forged(1), -11);
        x.keep(1, 1, HARD, 0);
        due(27, "a SORT", x.forged(1), -12);
        tell(x, 1, 0, 10, 30);
        due(27, "so", x.forged(1), -4);
        tell(x, 1, 1, 10, 31);
        due(27, "not so", x.forged(1), 1);
        tell(x, 1, 2, 10);
        due(27, "some told", x.forged(1), -4);
        tell(x, 1, 2, 10, 30, 0);
        due(27, "no such one", x.forged(1), 2);
        tell(x, 1, 0, -128, 30);
        due(27, "nothing is skipped", x.forged(1), 0);
        x.row(1, 0, 0);
        due(27, "nothing told", x.forged(1), -4);
    }

    private static void judge() {
        GreedyServers x = said("s000410;s000530;j013;j113;");
        due(28, "no such SHELF", x.judge(8), -1);
        due(28, "no such SHELF", x.judge(-1), -1);
        due(28, "nothing", x.judge(1), -11);
        x.keep(1, 1, HARD, 0);
        due(28, "a SORT", x.judge(1), -12);
        tell(x, 1, 0, 34, 34, 34, 34, 10);
        due(28, "so", x.judge(1), -4);
        tell(x, 1, 1, 34, 34, 34, 10);
        due(28, "not so", x.judge(1), 3);
        tell(x, 1, 1, 34, -32768, -32768, -32768, 10, 0);
        due(28, "skipped", x.judge(1), 5);
        tell(x, 1, 2, 34, MIN, 33);
        due(28, "skipped ints", x.judge(1), 2);
        tell(x, 1, 0, -128, 35);
        due(28, "skipped bytes", x.judge(1), 1);
        tell(x, 1, 2, -128, 34);
        due(28, "-128 of ints is not", x.judge(1), 0);
        x.row(1, 0, 0);
        due(28, "nothing told", x.judge(1), -4);
        due(28, "TICK is as it was", x.count(1), 0);
    }

    private static void days() {
        GreedyServers x = new GreedyServers();
        due(29, "n 0", x.days(0, 1, 0), -1);
        due(29, "n 21", x.days(21, 1, 0), -1);
        due(29, "what", x.days(1, 1, 2), -1);
        due(29, "what", x.days(1, 1, -1), -1);
        due(29, "no SERVERS", x.days(20, 1, 1), 0);
        // One SERVER of BUDGET 30, PERIOD 60: nothing is LATE in a day, and DONE are as WORK allows.
        x = said("s003060;");
        int z = 77;
        int done = 0;
        int doneOnFirst = 0;
        for (int day = 0; day < 3; day++) {
            int backlog = 0;
            int[] ends = new int[6];
            int jobs = 0;
            for (int i = 0; i < 6; i++) {
                z = z * 1103515245 + 12345;
                int work = 1 + (z & MAX) / 65536 % 9;
                z = z * 1103515245 + 12345;
                z = z * 1103515245 + 12345;
                int waiting = 0;
                for (int k = 0; k < jobs; k++) {
                    waiting += ends[k] > 5 * i ? 1 : 0;
                }
                if (waiting < 4) {
                    backlog = Math.max(backlog, 5 * i) + work;
                    ends[jobs++] = backlog;
                }
            }
            for (int k = 0; k < jobs; k++) {
                done += ends[k] <= 30 ? 1 : 0;
            }
            doneOnFirst = day == 0 ? done : doneOnFirst;
        }
        due(29, "DONE in a day", x.days(1, 77, 1), doneOnFirst);
        due(29, "DONE", x.days(3, 77, 1), done);
        say(x, "j013;t60;");
        due(29, "DONE now is not more", x.server(0, 10), 1);
        due(29, "DONE more", x.days(3, 77, 1), done);
        x = said("s003060;");
        due(29, "LATE", x.days(3, 77, 0), 0);
        due(29, "TICK is as it was", x.count(1), 0);
        x = said("s000101;j093;t02;");
        due(29, "DONE and LATE of now do not count", x.days(1, 5, 0) <= 30 ? 1 : 0, 1);
        due(29, "z may be any", x.days(20, MIN, 1) >= 0 ? 1 : 0, 1);
    }

    private static void imageAndRestore() {
        GreedyServers x = said("s200110;s000530;j031;j191;t01;");
        due(30, "TICK", x.image(), 1);
        x.ticks(20);
        x.drops(1);
        add(x, MILD, 3, 1, 2);
        x.keep(5, 1, SLACK, 8);
        x.tray(1, HARD, 2);
        due(31, "TICK", x.restore(), 1);
        due(31, "SERVERS", x.count(0), 2);
        due(31, "JOBS", x.count(4), 2);
        due(31, "whose LOCK", x.count(7), 0);
        due(31, "RESTING", x.server(0, 7), 2);
        due(31, "WORK", x.job(0, 0, 0), 2);
        due(31, "SHELVES stay", x.toss(5), 108);
        due(31, "TRAYS stay", x.laid(1, 0), -11);
        due(31, "TRAYS stay", x.laid(1, 2), -13);
        x.ticks(4);
        due(31, "again", x.restore(), 1);
        due(31, "still", x.job(1, 0, 0), 9);
        x.ticks(3);
        due(30, "a later one", x.image(), 4);
        x.ticks(3);
        due(31, "it is the later one", x.restore(), 4);
        x = new GreedyServers();
        due(31, "none", x.restore(), -3);
        due(30, "of nothing", x.image(), 0);
        add(x, HARD, 0, 1, 1);
        due(31, "of nothing", x.restore(), 0);
        due(31, "no SERVERS", x.count(0), 0);
        due(5, "a new one begins anew", add(x, GREEDY, 2, 1, 4), 0);
        due(5, "its DEADLINE", x.server(0, 6), 0);
        anewBehindRestore();
    }

    private static void anewBehindRestore() {
        GreedyServers x = new GreedyServers();
        x.image();
        say(x, "s000102;j011;j091;j013;t05;");
        x.restore();
        add(x, HARD, 0, 3, 30);
        int[] first = {HARD, 0, 3, 30, 6, 10000, 0, 0, 0, 0, 0, 60};
        for (int what = 0; what < first.length; what++) {
            due(5, "anew behind restore " + what, x.server(0, what), first[what]);
        }
        due(31, "no LOCK", x.count(7), -4);
    }

    private static void count() {
        GreedyServers x = said("s000205;s200110;s000530;s000530;j020;j121;j192;j213;t03;");
        // TICKS 0, 1: 0 (5), then 0 LINGERS; TICK 2: 1 (10), which RESTS; 2 has not run.
        int[] told = {4, 3, 24 + 6 + 10, 4, 3, 0, -4, 1, -4};
        for (int what = 0; what < told.length; what++) {
            due(32, "count " + what, x.count(what), told[what]);
        }
        due(32, "others", x.count(9), -1);
        due(32, "others", x.count(-1), -1);
        due(32, "others", x.count(MIN), -1);
        x = said("s000101;j092;t03;");
        due(32, "LATE of all", x.count(5), 2);
        due(32, "LOCK 2", x.count(8), 0);
        due(32, "READY", x.count(3), 1);
    }

    private static void tray() {
        GreedyServers x = new GreedyServers();
        due(33, "made", x.tray(0, GREEDY, 20), 1);
        due(33, "none such", x.tray(4, GREEDY, 1), -1);
        due(33, "none such", x.tray(-1, GREEDY, 1), -1);
        due(33, "KIND", x.tray(0, 6, 1), -1);
        due(33, "KIND", x.tray(0, -1, 1), -1);
        due(33, "n 21", x.tray(0, 0, 21), -1);
        due(33, "n -1", x.tray(0, 0, -1), -14);
        due(33, "-1 ahead of -14", x.tray(4, 0, -1), -1);
        due(33, "-1 ahead of -14", x.tray(0, 6, MIN), -1);
        due(33, "it is as it was", x.laid(0, 19), -11);
        due(33, "it is as it was", x.laid(0, 20), -13);
        x.keep(0, 1, SLACK, 1);
        x.lays(0, 0, 0);
        due(33, "laid", x.laid(0, 0), SLACK);
        due(33, "anew", x.tray(0, GREEDY, 1), 1);
        due(33, "all empty", x.laid(0, 0), -11);
        due(33, "no places", x.tray(0, GREEDY, 0), 1);
        due(33, "no places", x.laid(0, 0), -13);
    }

    private static void lays() {
        String[] madeFor = {"012345", "134", "25", "3", "4", "5"};
        GreedyServers x = new GreedyServers();
        for (int kind = 0; kind < 6; kind++) {
            for (int laid = 0; laid < 6; laid++) {
                x.tray(0, kind, 1);
                x.keep(0, 1, laid, 0);
                boolean fits = madeFor[kind].indexOf('0' + laid) >= 0;
                due(34, laid + " on a tray for " + kind, x.lays(0, 0, 0), fits ? 1 : -16);
                due(34, "what is there", x.laid(0, 0), fits ? laid : -11);
            }
        }
        due(34, "no such TRAY", x.lays(4, 0, 0), -1);
        due(34, "no such SHELF", x.lays(0, 0, 8), -1);
        due(34, "no such SHELF", x.lays(0, 0, -1), -1);
        due(34, "the TRAY", x.lays(1, 0, 0), -11);
        x.row(2, 0, 1);
        due(34, "a ROW ahead of the TRAY", x.lays(1, 0, 2), -12);
        due(34, "the place", x.lays(0, 1, 0), -13);
        due(34, "the place", x.lays(0, -1, 0), -13);
        x.tray(0, RESTER, 2);
        x.keep(0, 1, HARD, 0);
        due(34, "the place ahead of -16", x.lays(0, 2, 0), -13);
        due(34, "-16", x.lays(0, 1, 0), -16);
        x.keep(0, 1, STRICT, 3);
        x.lays(0, 1, 0);
        due(34, "the SHELF has it, too", x.cost(0), 7);
        due(34, "the TRAY for nothing", x.lays(1, 0, 3), -11);
        due(34, "the place for nothing", x.lays(0, 2, 3), -13);
        due(34, "nothing: the place is empty", x.lays(0, 1, 3), 1);
        due(34, "empty", x.laid(0, 1), -11);
    }

    private static void laid() {
        GreedyServers x = new GreedyServers();
        due(35, "no such TRAY", x.laid(4, 0), -1);
        due(35, "no such TRAY", x.laid(-1, 0), -1);
        due(35, "the TRAY", x.laid(3, 99), -11);
        x.tray(3, HARD, 2);
        due(35, "no place", x.laid(3, 2), -13);
        due(35, "no place", x.laid(3, MIN), -13);
        due(35, "empty", x.laid(3, 1), -11);
        x.keep(0, 1, HARD, 0);
        x.lays(3, 1, 0);
        x.keep(0, 1, MILD, 0);
        due(35, "its KIND, whatever the SHELF has later", x.laid(3, 1), HARD);
    }

    private static void like() {
        GreedyServers x = new GreedyServers();
        due(36, "none such", x.like(4, 0), -1);
        due(36, "none such", x.like(0, -1), -1);
        due(36, "the other one", x.like(0, 1), -11);
        x.tray(1, GREEDY, 2);
        x.keep(0, 1, MILD, 1);
        x.lays(1, 1, 0);
        due(36, "size", x.like(0, 1), 2);
        due(36, "what is there", x.laid(0, 1), MILD);
        x.lays(0, 0, 0);
        due(36, "the other one stays", x.laid(1, 0), -11);
        x.lays(1, 1, 5);
        due(36, "as that was then", x.laid(0, 1), MILD);
        x.keep(0, 1, RESTER, 1);
        due(36, "made for the same", x.lays(0, 0, 0), -16);
        due(36, "like itself", x.like(0, 0), 2);
        due(36, "as it was", x.laid(0, 1), MILD);
        due(36, "the other one lacks", x.like(0, 2), -11);
        due(36, "as it was", x.laid(0, 1), MILD);
    }

    private static void keep() {
        GreedyServers x = new GreedyServers();
        due(37, "no such SHELF", x.keep(8, 0, 0, 0), -1);
        due(37, "no such SHELF", x.keep(-1, 0, 0, 0), -1);
        due(37, "what", x.keep(0, 2, 0, 0), -1);
        due(37, "what", x.keep(0, -1, 0, 0), -1);
        due(37, "a SORT", x.keep(0, 1, HARD, 9), 0);
        due(37, "KIND", x.keep(0, 1, 6, 0), -1);
        due(37, "KIND", x.keep(0, 1, -1, 0), -1);
        due(37, "FIGURE", x.keep(0, 1, 0, 10), -1);
        due(37, "FIGURE", x.keep(0, 1, 0, -1), -1);
        due(37, "it is as it was", x.cost(0), 9);
        due(37, "nothing, the others do not matter", x.keep(0, 0, MIN, MAX), 0);
        due(37, "nothing", x.cost(0), -11);
        x.row(0, 0, 3);
        due(37, "in place of a ROW", x.keep(0, 1, HARD, 2), 0);
        due(37, "a SORT", x.cost(0), 2);
        due(37, "no ROW", x.put(0, 0, 0), -12);
    }

    private static void row() {
        GreedyServers x = new GreedyServers();
        due(38, "no such SHELF", x.row(8, 0, 1), -1);
        due(38, "no such SHELF", x.row(-1, 0, 1), -1);
        due(38, "sort", x.row(0, 3, 1), -1);
        due(38, "sort", x.row(0, -1, 1), -1);
        due(38, "n 101", x.row(0, 0, 101), -1);
        due(38, "n -1", x.row(0, 0, -1), -14);
        due(38, "-1 ahead of -14", x.row(0, 3, MIN), -1);
        due(38, "nothing yet", x.put(0, 0, 0), -11);
        due(38, "n 100", x.row(0, 2, 100), 0);
        due(38, "0 at first", x.element(0, 99), 0);
        x.put(0, 99, 5);
        due(38, "the last", x.element(0, 99), 5);
        due(38, "no more", thrown(x, 0, 100), 2);
        x.put(0, 3, 5);
        due(38, "anew", x.row(0, 2, 4), 0);
        due(38, "0 at first", x.element(0, 3), 0);
        due(38, "n 0", x.row(0, 2, 0), 0);
        due(38, "no place", thrown(x, 0, 0), 2);
    }

    private static void put() {
        GreedyServers x = new GreedyServers();
        due(39, "no such SHELF", x.put(8, 0, 0), -1);
        due(39, "no such SHELF", x.put(-1, 0, 0), -1);
        due(39, "nothing", x.put(0, 0, 0), -11);
        x.keep(0, 1, HARD, 0);
        due(39, "a SORT", x.put(0, 0, 0), -12);
        x.row(0, 0, 2);
        due(39, "no place", x.put(0, 2, 0), -13);
        due(39, "no place", x.put(0, -1, 0), -13);
        due(39, "no place", x.put(0, MAX, 0), -13);
        due(39, "a byte", x.put(0, 1, 0x1ff), 0);
        due(39, "its lowest bits", x.element(0, 1), -1);
        x.put(0, 1, 128);
        due(39, "its lowest bits", x.element(0, 1), -128);
        x.row(0, 1, 2);
        x.put(0, 0, 0x18000);
        due(39, "a short", x.element(0, 0), -32768);
        x.row(0, 2, 2);
        x.put(0, 0, MIN);
        due(39, "an int", x.element(0, 0), MIN);
    }

    private static void element() {
        GreedyServers x = new GreedyServers();
        due(40, "no such SHELF", thrown(x, 8, 0), 1);
        due(40, "no such SHELF", thrown(x, -1, 0), 1);
        due(40, "nothing", thrown(x, 0, 0), 2);
        x.keep(0, 1, HARD, 0);
        due(40, "a SORT", thrown(x, 0, 0), 2);
        tell(x, 0, 2, 4, -5, 6);
        due(40, "last", x.element(0, 2), 6);
        due(40, "below 0", x.element(0, 1), -5);
        due(40, "no place", thrown(x, 0, 3), 2);
        due(40, "no place", thrown(x, 0, -1), 2);
        due(40, "no place", thrown(x, 0, MIN), 2);
    }

    private static void copy() {
        GreedyServers x = new GreedyServers();
        due(41, "no such SHELF", x.copy(8, 0, 0, 0, 0), -1);
        due(41, "no such SHELF", x.copy(0, 0, -1, 0, 0), -1);
        due(41, "nothing", x.copy(0, 0, 1, 0, 0), -11);
        tell(x, 0, 1, 1, 2, 3, 4);
        due(41, "nothing there", x.copy(0, 0, 1, 0, 0), -11);
        due(41, "nothing here", x.copy(1, 0, 0, 0, 0), -11);
        x.keep(2, 1, HARD, 0);
        due(41, "-11 ahead of -12", x.copy(2, 0, 1, 0, 0), -11);
        due(41, "a SORT", x.copy(0, 0, 2, 0, 0), -12);
        due(41, "a SORT", x.copy(2, 0, 0, 0, 0), -12);
        due(41, "two SORTS", x.copy(2, 0, 2, 0, 0), -12);
        x.row(3, 0, 2);
        due(41, "a SORT and bytes", x.copy(2, 0, 3, 0, 0), -12);
        due(41, "bytes and a SORT", x.copy(3, 0, 2, 0, 0), -12);
        x.row(1, 0, 9);
        due(41, "another kind", x.copy(0, 9, 1, 0, 0), -12);
        x.row(1, 1, 3);
        due(41, "n", x.copy(0, 1, 1, 0, 3), 3);
        due(41, "first", x.element(1, 0), 2);
        due(41, "last", x.element(1, 2), 4);
        due(41, "too many", x.copy(0, 0, 1, 0, 4), -13);
        due(41, "too many", x.copy(1, 0, 0, 2, 3), -13);
        due(41, "i", x.copy(0, -1, 1, 0, 1), -13);
        due(41, "j", x.copy(0, 0, 1, -1, 1), -13);
        due(41, "n -1", x.copy(0, 1, 1, 1, -1), -13);
        due(41, "sums that would wrap around", x.copy(0, 1, 1, 1, MAX), -13);
        due(41, "sums that would wrap around", x.copy(0, MAX, 1, MAX, MAX), -13);
        due(41, "none, at the end", x.copy(0, 4, 1, 3, 0), 0);
        due(41, "none, behind the end", x.copy(0, 5, 1, 3, 0), -13);
        due(41, "onto itself, forward", x.copy(0, 0, 0, 1, 3), 3);
        int[] moved = {1, 1, 2, 3};
        for (int i = 0; i < 4; i++) {
            due(41, "onto itself " + i, x.element(0, i), moved[i]);
        }
        x.copy(0, 1, 0, 0, 3);
        int[] back = {1, 2, 3, 3};
        for (int i = 0; i < 4; i++) {
            due(41, "onto itself, back " + i, x.element(0, i), back[i]);
        }
    }

    private static void costAndToss() {
        GreedyServers x = new GreedyServers();
        due(42, "no such", x.cost(8), -1);
        due(42, "no such", x.cost(-1), -1);
        due(43, "no such", x.toss(8), -1);
        due(43, "no such", x.toss(-1), -1);
        due(42, "nothing", x.cost(0), -11);
        due(43, "nothing", x.toss(0), -11);
        x.row(0, 0, 1);
        due(42, "a ROW", x.cost(0), -12);
        due(43, "a ROW", x.toss(0), -12);
        int[] cost = {7, 1, 14, 4, 0, 15};
        int[] toss = {7, 107, -15, 107, 107, 215};
        int[] costOf0 = {0, 1, 0, 4, 0, 1};
        for (int kind = 0; kind < 6; kind++) {
            x.keep(0, 1, kind, 7);
            due(42, "COST of " + kind, x.cost(0), cost[kind]);
            due(43, "FAILURE of " + kind, x.toss(0), toss[kind]);
            x.keep(0, 1, kind, 0);
            due(42, "COST with FIGURE 0 of " + kind, x.cost(0), costOf0[kind]);
            due(43, "FIGURE 0 of " + kind, x.toss(0), -15);
        }
    }

    public static void main(String[] args) {
        newObject();
        text();
        server();
        job();
        comes();
        sends();
        drops();
        ticks();
        then();
        runs();
        quiet();
        misses();
        ran();
        admitted();
        demand();
        needs();
        alone();
        kindBest();
        send();
        load();
        whoRan();
        resterOrStrict();
        two();
        breaks();
        share();
        bits();
        wide();
        forged();
        judge();
        days();
        imageAndRestore();
        count();
        tray();
        lays();
        laid();
        like();
        keep();
        row();
        put();
        element();
        copy();
        costAndToss();
        System.out.println(checks + " checks, " + wrong + " wrong");
        if (wrong != 0) {
            System.exit(1);
        }
    }
}
