/** "==== 2." of the terms: AFLOAT, BORNE, EVEN, AN HOUR more step by step, DRAW, and hours ahead, at their edges. */
public final class EdgeHoursTest {
    public static void main(String[] args) {
        afloat();
        borne();
        even();
        howMany();
        hourFirst();
        openGate();
        bothAsAhead();
        hurt();
        hurtByNumbers();
        hurtThenWork();
        dryAtTwo();
        sitsAbove();
        handsByNumbers();
        doneToTheEnd();
        draws();
        drawsOnlyOpen();
        inNHours();
        trialsAndSpans();
        Check.end("EdgeHoursTest");
    }

    /** "AFLOAT: a DOCKED SHIP whose DRAUGHT is LEVEL at most". */
    private static void afloat() {
        for (int draught = 1; draught <= 20; draught++) {
            for (int level : new int[] {0, draught - 1, draught, draught + 1, 40}) {
                DryDock x = Check.dock("ship length 2 draught " + draught + " at 3;ship length 2 draught " + draught
                        + ";level " + level);
                boolean floats = draught <= level;
                String what = "draught " + draught + ", level " + level + ": ";
                Check.is(what + "afloat", floats ? 1 : 0, () -> x.ship(0, 7));
                Check.is(what + "afloat, but it waits", 0, () -> x.ship(1, 7));
                Check.is(what + "let in", floats ? "20" : "throws." + Check.STATE, () -> x.enter(1, 7));
                Check.is(what + "let out", floats ? "6" : "throws." + Check.STATE, () -> x.leave(0));
                Check.is(what + "afloat, or gone", 0, () -> x.ship(0, 7));
            }
        }
    }

    /** Whether it is borne by these blocks (bits from its first place on), word by word. */
    private static boolean bears(int blocks, int length) {
        if (length < 3) {
            return blocks != 0;
        }
        for (int i = 0; i + 3 <= length; i++) {
            if ((blocks >> i & 7) == 0) {
                return false;
            }
        }
        return true;
    }

    /** "of each three of its PLACES one behind another one has a BLOCK (of a LENGTH below 3: if any .. has one)". */
    private static void borne() {
        for (int length = 1; length <= 12; length++) {
            boolean[] bears = new boolean[1 << length];
            for (int set = 0; set < bears.length; set++) {
                bears[set] = bears(set, length);
            }
            for (int set = 0; set < bears.length; set++) {
                borneBy(set, length, bears);
            }
        }
        DryDock x = Check.dock("ship length 3 draught 1;ship length 3 draught 1 at 0;blocks 0 1 2 3 4 5");
        Check.is("one that waits is not borne", 0, () -> x.ship(0, 8));
        Check.is("and has no wedges", -1, () -> x.ship(0, 9));
        x.leave(1);
        Check.is("one that is gone is not borne", 0, () -> x.ship(1, 8));
        Check.is("and has no wedges", -1, () -> x.ship(1, 9));
    }

    /** Blocks just outside of its places never count. "WEDGES: the fewest BLOCKS more by which it would be BORNE". */
    private static void borneBy(int set, int length, boolean[] bears) {
        StringBuilder text = new StringBuilder("ship length " + length + " draught 1 at 6;blocks 5 " + (6 + length));
        if (set != 0) {
            text.append(";blocks");
        }
        int fewest = 99;
        for (int i = 0; i < length; i++) {
            text.append((set >> i & 1) == 1 ? " " + (6 + i) : "");
        }
        for (int more = 0; more < bears.length; more++) {
            fewest = bears[set | more] && (set & more) == 0 ? Math.min(fewest, Integer.bitCount(more)) : fewest;
        }
        DryDock x = Check.dock(text.toString());
        int due = fewest;
        Check.is("borne: " + text, bears[set] ? 1 : 0, () -> x.ship(0, 8));
        Check.is("wedges: " + text, due, () -> x.ship(0, 9));
    }

    /** "EVEN: LEVEL and TIDE NOW differ by 1 at most"; "THE GATE is opened (EVEN)". */
    private static void even() {
        for (int level = 0; level <= 40; level++) {
            for (int tide = 0; tide <= 30; tide++) {
                boolean due = level - tide <= 1 && tide - level <= 1;
                DryDock x = Check.dock("level " + level + ";tide " + tide + ";shut");
                Check.is("even: level " + level + ", tide " + tide, due, x::even);
                Check.is("opened: level " + level + ", tide " + tide, due ? "true" : "throws." + Check.STATE,
                        () -> x.gate(true));
                Check.is("open or not", due ? 1 : 0, () -> x.count(4));
            }
        }
    }

    /** "So many HOURS more (1 to 60)". */
    private static void howMany() {
        for (int n : new int[] {1, 2, 59, 60}) {
            DryDock x = new DryDock();
            Check.is(n + " hours", 0, () -> x.hours(n));
            Check.is("hour", n, () -> x.count(9));
            Check.is("one act", 1, () -> x.count(14));
        }
        for (int n : new int[] {0, -1, 61, Integer.MIN_VALUE, Integer.MAX_VALUE}) {
            Check.refused(n + " hours", Check.ARGUMENT,
                    () -> Check.dock("ship length 3 draught 12 work 4 at 0;tide 10 1;surge 3"), x -> x.hours(n));
        }
    }

    /** "(a) HOUR is 1 more .. TIDE NOW is by that)": leaks, the law's tide and hour are those of the new HOUR. */
    private static void hourFirst() {
        DryDock x = Check.dock("tide 0 30;shut;pumps 0;level 9");
        x.hours(1);
        Check.is("it leaks by the new tide", 10, () -> x.count(3));
        DryDock y = Check.dock("tide 30 0;shut;pumps 0;level 9");
        y.hours(1);
        Check.is("not by the tide before", 9, () -> y.count(3));
        DryDock z = Check.dock("tide 0 0;shut;pumps 0;level 9;hour 11");
        Check.law(z, "leak 5 if hour < 1;leak 20 if hour > 10");
        z.hours(1);
        Check.is("the law's hour is the new one, and goes round", 14, () -> z.count(3));
        DryDock open = Check.dock("tide 3 25;hour 12");
        open.hours(1);
        Check.is("open: the new tide", 25, () -> open.count(3));
    }

    /** "if THE GATE is OPEN, LEVEL is TIDE NOW": pumps and leaks count for nothing, however far it was. */
    private static void openGate() {
        for (int tide : new int[] {0, 1, 2, 29, 30}) {
            DryDock x = Check.dock("level 40;pumps 9;tide 10 " + tide);
            Check.law(x, "leak 40;pull 40");
            x.hours(1);
            Check.is("open, tide " + tide, tide, () -> x.count(3));
        }
    }

    /** "LEVEL is LEAKS more and PULLS less, both by all as it is ahead of (b)". */
    private static void bothAsAhead() {
        DryDock x = Check.dock("level 3;shut;pumps 0;tide 0 0 0 0");
        Check.law(x, "leak 4;pull 9 if level > 6;pull 1 if dry");
        x.hours(1);
        Check.is("the pull does not see the leak", 7, () -> x.count(3));
        x.hours(1);
        Check.is("an hour later it does", 2, () -> x.count(3));
        x.hours(1);
        Check.is("dry of ahead", 5, () -> x.count(3));
        DryDock y = Check.dock("level 3;shut;pumps 2;tide 0 2 0");
        Check.law(y, "leak 3 if level < 2");
        y.hours(1);
        Check.is("the leaks do not see the pull", 1, () -> y.count(3));
        y.hours(1);
        Check.is("an hour later they do", 2, () -> y.count(3));
    }

    private static void hurtIs(String ship, int level, int due) {
        DryDock x = Check.dock("ship " + ship + ";hands 0;tide 10 " + level);
        x.hours(1);
        Check.is("hurt: " + ship + " at level " + level, due, x::hurt);
        Check.is("work", 5 * due, () -> x.count(12));
        Check.is("rows", due, () -> x.count(13));
    }

    /** "(c) each DOCKED SHIP .. that SITS, is not BORNE and not HURT". */
    private static void hurt() {
        hurtIs("length 3 draught 8 at 0", 9, 0);
        hurtIs("length 3 draught 8 at 0", 8, 0);
        hurtIs("length 3 draught 8 at 0", 7, 1);
        hurtIs("length 3 draught 8 at 0", 0, 1);
        hurtIs("length 3 draught 8 at 0;blocks 2", 7, 0);
        hurtIs("length 3 draught 8 at 0;blocks 3", 7, 1);
        hurtIs("length 4 draught 8 at 0;blocks 0", 7, 1);
        hurtIs("length 4 draught 8 at 0;blocks 1", 7, 0);
        hurtIs("length 3 draught 8", 7, 0);
        DryDock x = Check.dock("ship length 3 draught 8 at 0;hands 0;tide 10 7 7");
        x.hours(1);
        Check.is("hurt", 5, () -> x.ship(0, 2));
        x.hours(1);
        Check.is("hurt already", 5, () -> x.ship(0, 2));
        x.hours(10);
        x.hours(1);
        Check.is("hurt for good", 5, () -> x.ship(0, 2));
        Check.is("one row", 1, () -> x.count(13));
        x.undo();
        x.undo();
        x.undo();
        x.undo();
        Check.is("undone", 0, x::hurt);
        DryDock gone = Check.dock("ship length 3 draught 8 at 0;hands 0;tide 10 7");
        gone.leave(0);
        gone.hours(1);
        Check.is("one that is gone is not hurt", 0, gone::hurt);
    }

    private static void hurtByNumbers() {
        DryDock x = Check.dock("ship length 1 draught 9 at 20;ship length 1 draught 3 at 10;ship length 1 draught 9 at 0;"
                + "ship length 1 draught 9 at 4;blocks 0;hands 0;tide 10 5");
        x.hours(1);
        Check.is("those that sit and are not borne", 1 + 8, x::hurt);
        int[][] rows = {{1, 3, 2, 4, 5}, {1, 0, 2, 20, 5}, {-1, -1, -1, -1, -1}};
        rows(x, rows);
    }

    private static void rows(DryDock x, int[][] rows) {
        for (int i = 0; i < rows.length; i++) {
            for (int k = 0; k < 5; k++) {
                int ago = i;
                int what = k;
                Check.is("log " + i + ", " + k, rows[i][k], () -> x.log(ago, what));
            }
        }
    }

    /** THE LOG: "of one HOUR in the order in which it comes about": (c) comes ahead of (d), each by numbers. */
    private static void hurtThenWork() {
        DryDock x = Check.dock("ship length 1 draught 9 at 20;ship length 1 draught 9 work 1 at 22;"
                + "ship length 1 draught 9 work 2 at 2;blocks 22;hands 9;tide 10 2");
        Check.is("5 of one hurt, 1, then 3 of 7", 9, () -> x.hours(1));
        rows(x, new int[][] {{1, 1, 3, 22, 2}, {1, 0, 3, 20, 2}, {1, 2, 2, 2, 2}, {1, 0, 2, 20, 2}, {-1, -1, -1, -1, -1}});
        Check.is("left", 4, () -> x.ship(2, 2));
    }

    /** "(d) if LEVEL is 2 at most". */
    private static void dryAtTwo() {
        for (int level = 0; level <= 4; level++) {
            DryDock x = Check.dock("ship length 1 draught 9 work 50 at 0;blocks 0;hands 7;tide 10 " + level);
            int due = level <= 2 ? 7 : 0;
            Check.is("done at level " + level, due, () -> x.hours(1));
            Check.is("left at level " + level, 50 - due, () -> x.ship(0, 2));
        }
    }

    /** "HANDS go to SHIPS .. that SIT". */
    private static void sitsAbove() {
        for (int draught = 1; draught <= 4; draught++) {
            DryDock x = Check.dock("ship length 1 draught " + draught + " work 50 at 0;blocks 0;hands 7;tide 10 2");
            Check.is("done of draught " + draught, draught > 2 ? 7 : 0, () -> x.hours(1));
        }
        DryDock x = Check.dock("ship length 1 draught 9 work 50;hands 7;tide 10 0");
        Check.is("not one that waits", 0, () -> x.hours(1));
        DryDock y = Check.dock("ship length 1 draught 9 work 50 at 0;hands 7;tide 10 0");
        y.leave(0);
        Check.is("not one that is gone", 0, () -> y.hours(1));
        Check.is("its work stays", 50, () -> y.count(12));
    }

    private static void handsTo(int hands, int... left) {
        DryDock x = Check.dock("ship length 1 draught 9 work 2 at 9;ship length 1 draught 9 at 5;ship length 1 draught 9 work 3 at 7;"
                + "ship length 1 draught 9 work 4 at 0;blocks 0 5 7 9;tide 10 0;hands " + hands);
        Check.is(hands + " hands: done", hands, () -> x.hours(1));
        for (int i = 0; i < left.length; i++) {
            int ship = i;
            Check.is(hands + " hands: left of " + i, left[i], () -> x.ship(ship, 2));
        }
    }

    /** "by numbers .. to each as many of those left as it has WORK". */
    private static void handsByNumbers() {
        handsTo(0, 2, 0, 3, 4);
        handsTo(1, 1, 0, 3, 4);
        handsTo(2, 0, 0, 3, 4);
        handsTo(3, 0, 0, 2, 4);
        handsTo(5, 0, 0, 0, 4);
        handsTo(6, 0, 0, 0, 3);
        handsTo(9, 0, 0, 0, 0);
        DryDock x = Check.dock("ship length 1 draught 9 work 99 at 0;blocks 0;hands 9;shut;level 0;pumps 1");
        Check.is("60 hours: all", 99, () -> x.hours(60));
        Check.is("no more", 0, () -> x.hours(60));
        DryDock y = Check.dock("ship length 1 draught 9 work 99 at 0;blocks 0;hands 1;shut;level 0;pumps 1");
        Check.is("60 hours: 60", 60, () -> y.hours(60));
        Check.is("left", 39, () -> y.count(12));
    }

    /** THE LOG: "had WORK above 0 done to the end in an HOUR (3)". */
    private static void doneToTheEnd() {
        int[][] cases = {{0, 0}, {1, 1}, {4, 1}, {5, 1}, {6, 0}};
        for (int[] c : cases) {
            DryDock x = Check.dock("ship length 1 draught 9 work " + c[0] + " at 7;blocks 7;tide 10 1;hands 5");
            x.hours(1);
            Check.is("rows of work " + c[0], c[1], () -> x.count(13));
            Check.is("kind", c[1] == 1 ? 3 : -1, () -> x.log(0, 2));
        }
        DryDock x = Check.dock("ship length 1 draught 9 work 6 at 7;blocks 7;shut;level 0;pumps 1;hands 5");
        x.hours(1);
        Check.is("not to the end", 0, () -> x.count(13));
        x.hours(1);
        Check.is("to the end", 1, () -> x.count(13));
        x.hours(1);
        Check.is("once", 1, () -> x.count(13));
    }

    /** "SEED is 1103515245 times SEED and 12345, as an int that goes round; bits 16 to 30". */
    private static void draws() {
        int[] seeds = {0, 1, 2, -1, 12345, -12345, Integer.MIN_VALUE, Integer.MAX_VALUE, 0x7fff0000, 0x40000000, -65536};
        for (int seed : seeds) {
            for (int surge = 0; surge <= 5; surge++) {
                DryDock x = Check.dock("surge " + surge + ";tide 7 7 7 7");
                x.seed(seed);
                int next = seed;
                for (int i = 0; i < 3; i++) {
                    java.math.BigInteger exact = java.math.BigInteger.valueOf(1103515245).multiply(
                            java.math.BigInteger.valueOf(next)).add(java.math.BigInteger.valueOf(12345));
                    next = exact.intValue();
                    int draw = 0;
                    for (int bit = 30; bit >= 16; bit--) {
                        draw = 2 * draw + (exact.testBit(bit) ? 1 : 0);
                    }
                    int level = 7 + draw % (surge + 1);
                    int after = next;
                    x.hours(1);
                    Check.is("seed " + seed + ", surge " + surge + ": level", level, () -> x.count(3));
                    Check.is("seed " + seed + ": seed", after, () -> x.seed(after));
                }
            }
        }
    }

    /** "(the DRAW always then)", "(.. no DRAW)": one each hour of an OPEN dock, none of a shut one. */
    private static void drawsOnlyOpen() {
        DryDock x = new DryDock();
        x.hours(3);
        DryDock y = new DryDock();
        for (int i = 0; i < 3; i++) {
            y.hours(1);
        }
        int after = y.seed(5);
        Check.that("three draws without surge", after != 1);
        Check.is("as many in one call", after, () -> x.seed(5));
        x.gate(false);
        x.hours(60);
        Check.is("shut: none", 5, () -> x.seed(5));
        DryDock shut = Check.dock("surge 5;shut;level 10;pumps 0");
        shut.hours(60);
        Check.is("shut: no surge", 10, () -> shut.count(3));
        Check.is("shut: none", 1, () -> shut.seed(1));
    }

    /** "IN N HOURS (0 to 60): as so many HOURS without SURGE (no DRAWS)". */
    private static void inNHours() {
        String text = "ship length 1 draught 12 work 20 at 0;ship length 1 draught 9 work 7;blocks 0;tide 10 2 0 1 2 3 30;hands 3";
        for (int n = 0; n <= 60; n++) {
            int hours = n;
            DryDock x = Check.dock(text + ";surge 5");
            DryDock y = Check.dock(text);
            if (n > 0) {
                y.hours(n);
            }
            Check.is("level in " + n, y.count(3), () -> x.ahead(hours, false));
            Check.is("work in " + n, y.count(12), () -> x.ahead(hours, true));
            Check.is("no draw", 1, () -> x.seed(1));
        }
        for (int n : new int[] {-1, 61, Integer.MIN_VALUE, Integer.MAX_VALUE}) {
            Check.refused("ahead " + n, Check.ARGUMENT, () -> Check.dock(text), x -> x.ahead(n, false));
            Check.refused("ahead " + n + ", work", Check.ARGUMENT, () -> Check.dock(text), x -> x.ahead(n, true));
            Check.refused("trial " + n, Check.ARGUMENT, () -> Check.dock(text), x -> x.trial(n, false));
            Check.refused("trial " + n + ", work", Check.ARGUMENT, () -> Check.dock(text), x -> x.trial(n, true));
            Check.refused("span " + n, Check.ARGUMENT, () -> Check.dock(text), x -> x.span(n, false));
            Check.refused("span " + n + ", most", Check.ARGUMENT, () -> Check.dock(text), x -> x.span(n, true));
        }
    }

    /** "TRIAL .. (draws, too; nothing stays)"; "SPAN: the least and the greatest LEVEL so from SEED 1, 2, .. 6". */
    private static void trialsAndSpans() {
        String text = "ship length 1 draught 20 work 20 at 0;ship length 1 draught 9 work 7;tide 10 0 4;hands 3;surge 5";
        boolean[] leastAlone = new boolean[7];
        boolean[] mostAlone = new boolean[7];
        for (int n = 0; n <= 60; n++) {
            int hours = n;
            int[] levels = new int[7];
            for (int seed = 1; seed <= 6; seed++) {
                DryDock y = Check.dock(text);
                DryDock x = Check.dock(text);
                y.seed(seed);
                x.seed(seed);
                if (n > 0) {
                    y.hours(n);
                }
                levels[seed] = y.count(3);
                Check.is("trial " + n + " from " + seed, y.count(3), () -> x.trial(hours, false));
                Check.is("trial " + n + " from " + seed + ", work", y.count(12), () -> x.trial(hours, true));
                Check.is("nothing stays", seed, () -> x.seed(9));
            }
            DryDock x = Check.dock(text);
            x.seed(77);
            int least = 99;
            int most = -1;
            for (int seed = 1; seed <= 6; seed++) {
                least = Math.min(least, levels[seed]);
                most = Math.max(most, levels[seed]);
            }
            int low = least;
            int high = most;
            Check.is("least of " + n, low, () -> x.span(hours, false));
            Check.is("greatest of " + n, high, () -> x.span(hours, true));
            Check.is("nothing stays", 77, () -> x.seed(9));
            alone(levels, low, leastAlone);
            alone(levels, high, mostAlone);
        }
        for (int seed = 1; seed <= 6; seed++) {
            Check.that("seed " + seed + " has the least or the greatest alone in some hour", leastAlone[seed] || mostAlone[seed]);
        }
        DryDock shut = Check.dock("level 40;shut;pumps 0");
        Check.is("40 is the least", 40, () -> shut.span(60, false));
        Check.is("40 is the greatest", 40, () -> shut.span(60, true));
        DryDock dry = Check.dock("level 0;shut;pumps 9");
        Check.is("0 is the least", 0, () -> dry.span(60, false));
        Check.is("0 is the greatest", 0, () -> dry.span(60, true));
    }

    private static void alone(int[] levels, int value, boolean[] found) {
        int who = 0;
        int many = 0;
        for (int seed = 1; seed <= 6; seed++) {
            if (levels[seed] == value) {
                who = seed;
                many++;
            }
        }
        if (many == 1) {
            found[who] = true;
        }
    }
}
