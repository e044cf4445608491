/** Promises 10, 19 to 21, 25 to 27, 48 to 50, 53: hours, the basin, hours ahead, trials, spans, draws. */
public final class HoursTest {
    public static void main(String[] args) {
        openGate();
        shutGate();
        byAllAhead();
        hurting();
        working();
        draws();
        lastHour();
        ahead();
        firsts();
        trials();
        spans();
        Check.end("HoursTest");
    }

    private static void openGate() {
        DryDock x = Check.dock("tide 1 2 3 4 5 6 7 8 9 10 11 12;hour 10");
        Check.is("0 hours", "throws.IllegalArgumentException", () -> x.hours(0));
        Check.is("61 hours", "throws.IllegalArgumentException", () -> x.hours(61));
        Check.is("-1 hours", "throws.IllegalArgumentException", () -> x.hours(-1));
        Check.is("1 hour", 0, () -> x.hours(1));
        Check.is("level is the tide of the new hour", 12, () -> x.count(3));
        Check.is("hour", 11, () -> x.count(9));
        x.hours(1);
        Check.is("tide goes round", 1, () -> x.count(3));
        x.hours(60);
        Check.is("60 hours", 72, () -> x.count(9));
        Check.is("level", 1, () -> x.count(3));
    }

    private static void shutGate() {
        DryDock x = Check.dock("level 10;shut;pumps 3;tide 10 10 10 10 10 9");
        Check.is("no leak, when tide and level are one", 0, x::leaks);
        x.hours(1);
        Check.is("level", 7, () -> x.count(3));
        Check.is("leak", 1, x::leaks);
        x.hours(1);
        Check.is("level", 5, () -> x.count(3));
        x.hours(3);
        Check.is("not below 0", 0, () -> x.count(3));
        x.pumps(0);
        x.hours(1);
        Check.is("leaks fill it", 1, () -> x.count(3));
        Check.law(x, "leak 38;pull 1");
        Check.is("pulls", 1, x::pulls);
        Check.is("leaks", 39, x::leaks);
        x.hours(1);
        Check.is("level", 39, () -> x.count(3));
        x.hours(1);
        Check.is("not above 40", 40, () -> x.count(3));
    }

    private static void byAllAhead() {
        DryDock x = Check.dock("level 10;shut;pumps 0;tide 10 20 10");
        Check.law(x, "pull 2 if tide > 19;leak 5 if level < 10;pull 1 if hour < 1;leak 7 if open;pull 3 if dry");
        Check.is("pulls of now", 1, x::pulls);
        x.hours(1);
        Check.is("tide of the new hour, level of before", 10 + 1 - 2, () -> x.count(3));
        x.hours(1);
        Check.is("level of before", 9 + 1 + 5, () -> x.count(3));
    }

    private static void hurting() {
        DryDock x = Check.dock("ship length 3 draught 9 work 97 at 0;ship length 3 draught 9 at 4;ship length 3 draught 5 at 8;"
                + "ship length 3 draught 9;blocks 4;tide 10 8 8;hands 0");
        x.hours(1);
        Check.is("hurt: it sits, is not borne", 1, x::hurt);
        Check.is("5 more, 99 at most", 99, () -> x.ship(0, 2));
        Check.is("borne: none more", 0, () -> x.ship(1, 2));
        Check.is("hurt", 1, () -> x.ship(0, 5));
        x.hours(1);
        Check.is("hurt once", 1, () -> x.count(13));
        x.block(4, false);
        x.hours(11);
        Check.is("borne no more", 3, x::hurt);
        Check.is("5 more", 5, () -> x.ship(1, 2));
        DryDock y = Check.dock("ship length 3 draught 8 at 0;tide 10 8");
        y.hours(1);
        Check.is("draught is level: it floats", 0, y::hurt);
    }

    private static void working() {
        DryDock x = Check.dock("ship length 1 draught 9 work 2 at 0;ship length 1 draught 2 work 7 at 1;"
                + "ship length 1 draught 3 work 4 at 2;ship length 1 draught 9 work 50;ship length 1 draught 9 work 9 at 4;"
                + "blocks 0 1 2 3 4;shut;level 4;pumps 1;tide 0 0 0;hands 5");
        Check.is("not dry", 0, () -> x.hours(1));
        Check.is("level", 3, () -> x.count(3));
        Check.is("dry", 5, () -> x.hours(1));
        Check.is("0 is done", 0, () -> x.ship(0, 2));
        Check.is("1 floats", 7, () -> x.ship(1, 2));
        Check.is("2 has what was left", 1, () -> x.ship(2, 2));
        Check.is("3 waits", 50, () -> x.ship(3, 2));
        Check.is("4 has none", 9, () -> x.ship(4, 2));
        Check.is("one row", 1, () -> x.count(13));
        Check.is("done", 3, () -> x.log(0, 2));
        x.flow(2, 0);
        x.flow(3, 0);
        Check.is("1 sits now", 5, () -> x.hours(1));
        Check.is("1", 2, () -> x.ship(1, 2));
        Check.is("more hands than work", 2 + 1 + 9, () -> x.hours(60));
        Check.is("rows", 4, () -> x.count(13));
        Check.is("left", 50, () -> x.count(12));
    }

    private static void draws() {
        DryDock x = Check.dock("surge 5");
        int seed = 1;
        for (int i = 0; i < 20; i++) {
            seed = 1103515245 * seed + 12345;
            int level = 10 + (seed >>> 16 & 0x7fff) % 6;
            x.hours(1);
            Check.is("level by a draw", level, () -> x.count(3));
        }
        int last = seed;
        Check.is("seed goes on", last, () -> x.seed(1));
        DryDock one = Check.dock("surge 1");
        int sum = 0;
        for (int i = 0; i < 40; i++) {
            one.hours(1);
            sum += one.count(3) - 10;
        }
        int surges = sum;
        Check.that("surge 1 comes in some of 40 hours", surges > 5 && surges < 35);
        DryDock y = new DryDock();
        y.hours(1);
        Check.is("a draw without surge, too", 1103527590, () -> y.seed(-1));
        y.gate(false);
        y.hours(5);
        Check.is("no draw when shut", -1, () -> y.seed(7));
    }

    private static void lastHour() {
        DryDock x = Check.dock("hour 999;tide 0 1 2 3 4 5 6 7 8 9 10 11");
        for (int i = 0; i < 150; i++) {
            x.hours(60);
        }
        Check.is("hour", 9999, () -> x.count(9));
        x.hours(5);
        Check.is("9999 at most", 9999, () -> x.count(9));
        Check.is("tide of it", 9999 % 12, () -> x.count(3));
    }

    private static void ahead() {
        DryDock x = Check.dock("ship length 1 draught 9 work 8 at 0;ship length 1 draught 1 work 5 at 9;"
                + "surge 5;tide 10 1 7;hands 3");
        x.leave(1);
        String before = Check.all(x);
        Check.is("0 hours", 10, () -> x.ahead(0, false));
        Check.is("1 hour, without surge", 1, () -> x.ahead(1, false));
        Check.is("2 hours", 7, () -> x.ahead(2, false));
        Check.is("work now, of one gone, too", 13, () -> x.ahead(0, true));
        Check.is("work then: hurt, then worked on", 13 + 5 - 3, () -> x.ahead(1, true));
        Check.is("60 hours", 10, () -> x.ahead(60, false));
        Check.is("61", "throws.IllegalArgumentException", () -> x.ahead(61, false));
        Check.is("-1", "throws.IllegalArgumentException", () -> x.ahead(-1, true));
        Check.is("nothing stays", before, () -> Check.all(x));
    }

    private static void firsts() {
        DryDock x = Check.dock("ship length 1 draught 9 work 8 at 0;blocks 0;shut;pumps 3;level 10;hands 3;tide 0 0 0 0 0 0");
        String before = Check.all(x);
        Check.is("dry", 3, x::dry);
        Check.is("ready", 5, x::ready);
        Check.is("ease", 3, x::ease);
        Check.is("nothing stays", before, () -> Check.all(x));
        x.hands(0);
        Check.is("never ready", -1, x::ready);
        DryDock y = Check.dock("level 20;shut;pumps 0;ship length 1 draught 1 work 1");
        Check.is("never dry", -1, y::dry);
        Check.is("ready: one that waits counts for nothing", 0, y::ready);
        Check.is("never even", -1, y::ease);
        DryDock z = Check.dock("level 2");
        Check.is("dry now", 0, z::dry);
        Check.is("open", 0, z::ease);
        z.gate(false);
        Check.is("basin by 1 each hour", -1, z::ease);
        z.pumps(0);
        Check.is("even, when 1 is wanting", 7, z::ease);
        DryDock surging = Check.dock("surge 5;tide 10 2;ship length 1 draught 1 work 1 at 0");
        Check.is("dry without surge", 1, surging::dry);
        Check.is("work of 1 is work", 1, () -> surging.count(12));
        Check.is("never ready, as it floats", -1, surging::ready);
        DryDock far = Check.dock("level 40;shut;pumps 0;tide 30 30 30 30 30 30 30 30 30 30 30 30");
        Check.law(far, "pull 1 if hour < 8 and hour > 1");
        Check.is("dry at 60 or never", -1, far::dry);
        Check.law(far, "pull 1 if hour < 10 and hour > 1");
        Check.is("level of 60", 30, () -> far.ahead(60, false));
        DryDock last = Check.dock("level 40;shut;pumps 0;tide 0 0 0 0 0 0 0 0 0 0 0 0");
        Check.law(last, "pull 1 if hour > 4;pull 1 if hour < 1");
        Check.is("38 of 60 hours", 58, last::dry);
        Check.law(last, "pull 3 if hour < 1;pull 5 if hour > 10");
        Check.is("3 and 5 by 12 hours", 60, last::dry);
        Check.law(last, "pull 8 if hour < 1");
        Check.is("5 times 8, the 60th hour", 60, last::dry);
        Check.law(last, "pull 7 if hour < 1");
        Check.is("5 times 7", -1, last::dry);
    }

    /** All six seeds count, as in some hour each of them has the least or the greatest alone. */
    private static void spans(DryDock x, int n) {
        int least = 99;
        int most = -1;
        for (int seed = 1; seed <= 6; seed++) {
            x.seed(seed);
            least = Math.min(least, x.trial(n, false));
            most = Math.max(most, x.trial(n, false));
        }
        int low = least;
        int high = most;
        Check.is("span, least, of " + n, low, () -> x.span(n, false));
        Check.is("span, greatest, of " + n, high, () -> x.span(n, true));
    }

    private static DryDock surging() {
        DryDock x = Check.dock("ship length 1 draught 15 work 8 at 0;surge 5;tide 10 12;hands 3");
        x.seed(12345);
        return x;
    }

    private static void trials() {
        DryDock x = surging();
        for (int n = 0; n <= 60; n++) {
            int level = x.trial(n, false);
            int work = x.trial(n, true);
            DryDock come = surging();
            if (n > 0) {
                come.hours(n);
            }
            Check.is("trial is what comes", level, () -> come.count(3));
            Check.is("trial is what comes", work, () -> come.count(12));
        }
        Check.is("nothing stays of a trial", Check.all(surging()), () -> Check.all(x));
        Check.is("61", "throws.IllegalArgumentException", () -> x.trial(61, false));
        Check.is("-1", "throws.IllegalArgumentException", () -> x.trial(-1, true));
    }

    private static void spans() {
        DryDock x = surging();
        String before = Check.all(x);
        int least = 99;
        int most = -1;
        for (int seed = 1; seed <= 6; seed++) {
            x.seed(seed);
            least = Math.min(least, x.trial(7, false));
            most = Math.max(most, x.trial(7, false));
        }
        for (int n = 0; n < 12; n++) {
            spans(x, n);
        }
        x.seed(12345);
        int low = least;
        int high = most;
        Check.is("span, least", low, () -> x.span(7, false));
        Check.is("span, greatest", high, () -> x.span(7, true));
        Check.that("span is one", low < high);
        Check.is("span of 0", 10, () -> x.span(0, false));
        Check.is("span of 0", 10, () -> x.span(0, true));
        Check.is("nothing stays of a span", before, () -> Check.all(x));
        Check.is("61", "throws.IllegalArgumentException", () -> x.span(61, false));
        Check.is("-1", "throws.IllegalArgumentException", () -> x.span(-1, true));
    }
}
