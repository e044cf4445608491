/** Promises 23, 24, 28, 29, 35 to 40: loads, costs, knocks, beds, pairs, rests, odds. */
public final class PlansTest {
    public static void main(String[] args) {
        loads();
        packing();
        turns();
        costs();
        knocks();
        wholeRows();
        beds();
        pairs();
        rests();
        odds();
        Check.end("PlansTest");
    }

    private static void load(String text, int load, int which) {
        DryDock x = Check.dock(text);
        String before = Check.all(x);
        Check.is("load of " + text, load, x::load);
        Check.is("which of " + text, which, x::which);
        Check.is("nothing stays", before, () -> Check.all(x));
    }

    private static void loads() {
        Check.is("load of none", 0, () -> new DryDock().load());
        Check.is("which of none", 0, () -> new DryDock().which());
        load("ship length 5 draught 10", 15, 1);
        load("ship length 5 draught 11", 0, 0);
        load("ship length 5 draught 10 at 0", 0, 0);
        load("ship length 5 draught 10;shut", 15, 1);
        load("ship length 12 draught 1;ship length 12 draught 1;ship length 12 draught 1", 72, 3);
        load("ship length 12 draught 11;ship length 12 draught 1;ship length 12 draught 1", 72, 6);
        load("ship length 12 draught 1 at 0;ship length 7 draught 1;ship length 6 draught 1;ship length 6 draught 1", 36, 12);
        load("ship length 12 draught 1 at 0;ship length 12 draught 1 at 12;ship length 1 draught 1", 0, 0);
        DryDock x = Check.dock("ship length 12 draught 1 at 0;ship length 7 draught 1;ship length 6 draught 1;"
                + "ship length 6 draught 1;ship length 1 draught 20");
        Check.law(x, "fee 20 if length > 6 and length < 8");
        Check.is("fees by the law", 21 + 20, x::load);
        Check.is("which by the law", 2, x::which);
        Check.is("first, behind which", -1, x::first);
        Check.is("cost, behind which", 0, x::cost);
        Check.is("beds, behind cost", 6 + 6, () -> x.beds(-1));
        Check.is("pairs, behind beds", 0, () -> x.pairs(-1));
        Check.is("load, behind pairs", 21 + 20, x::load);
        x.leave(0);
        Check.is("which, when there is room", 2 + 4 + 8, x::which);
    }

    /** Rows of 5 and 7 free PLACES: what fits together is not told by sums. */
    private static void packing() {
        String row = "ship length 6 draught 20 at 5;ship length 6 draught 20 at 18;";
        load(row + "ship length 6 draught 1;ship length 6 draught 1", 18, 4);
        load(row + "ship length 4 draught 1;ship length 4 draught 1;ship length 4 draught 1", 24, 4 + 8);
        load(row + "ship length 3 draught 1;ship length 4 draught 1;ship length 5 draught 1", 36, 4 + 8 + 16);
        load(row + "ship length 1 draught 1;ship length 6 draught 1;ship length 2 draught 1;ship length 3 draught 1", 36,
                4 + 8 + 16 + 32);
        load(row + "ship length 6 draught 1;ship length 3 draught 1;ship length 3 draught 1", 27, 4 + 8);
    }

    /** One object asked in turns: what one call works with must not tell in another. */
    private static void turns() {
        DryDock x = Check.dock("ship length 12 draught 1 work 1 at 0;ship length 11 draught 1 work 1 at 12;"
                + "ship length 1 draught 1 work 9;ship length 2 draught 1 work 7;ship length 1 draught 1 work 8;hands 1");
        for (int i = 0; i < 3; i++) {
            Check.is("load", 3, x::load);
            Check.is("cost", 36 + 33 * 2, x::cost);
            Check.is("beds", 1, () -> x.beds(-1));
            Check.is("bed of 2", 23, () -> x.beds(2));
            Check.is("pairs", 1 + 9 + 8 + 7, () -> x.pairs(-1));
            Check.is("which", 4, x::which);
            Check.is("first", 0, x::first);
            Check.is("pair of 0", -1, () -> x.pairs(0));
            Check.is("pair of 1", 2, () -> x.pairs(1));
            Check.is("bed of 3", -1, () -> x.beds(3));
        }
        x.leave(0);
        x.leave(1);
        Check.is("load of all", 12, x::load);
        Check.is("cost of none", 0, x::cost);
        Check.is("first of none", -1, x::first);
        Check.is("beds of all", 4, () -> x.beds(-1));
        Check.is("bed of 4", 3, () -> x.beds(4));
        Check.is("pairs of three", 17, () -> x.pairs(-1));
        x.enter(2, 0);
        x.enter(3, 1);
        x.enter(4, 3);
        Check.is("load of none", 0, x::load);
        Check.is("which of none", 0, x::which);
        Check.is("beds of none", 0, () -> x.beds(-1));
    }

    private static void costs() {
        Check.is("cost of none", 0, () -> new DryDock().cost());
        Check.is("first of none", -1, () -> new DryDock().first());
        DryDock x = Check.dock("ship length 5 draught 1 work 9 at 0;ship length 2 draught 1 work 3 at 6;"
                + "ship length 3 draught 1 work 99;ship length 1 draught 1 at 9;hands 3");
        Check.is("0 first: 15*3+6*4, 1 first: 6*1+15*4", 66, x::cost);
        Check.is("first", 1, x::first);
        x.hands(5);
        Check.is("0 first: 15*2+6*3, 1 first: 6*1+15*3", 48, x::cost);
        Check.is("first", 0, x::first);
        x.hands(0);
        Check.is("no hands", -1, x::cost);
        Check.is("no hands: first", -1, x::first);
        DryDock none = Check.dock("ship length 5 draught 1 at 0;hands 0");
        Check.is("no hands, no work", 0, none::cost);
        DryDock y = Check.dock("ship length 2 draught 1 work 4 at 0;ship length 2 draught 1 work 4 at 2;hands 4");
        Check.is("alike", 6 + 12, y::cost);
        Check.is("alike: the lesser", 0, y::first);
        Check.law(y, "fee 40 if ship > 0");
        Check.is("by the law", 46 + 12, y::cost);
        Check.is("by the law: first", 1, y::first);
        DryDock all = Check.dock("ship length 1 draught 1 work 9 at 0;ship length 1 draught 1 work 8 at 1;"
                + "ship length 1 draught 1 work 7 at 2;ship length 1 draught 1 work 6 at 3;ship length 1 draught 1 work 5 at 4;"
                + "ship length 1 draught 1 work 4 at 5;ship length 1 draught 1 work 3 at 6;ship length 1 draught 1 work 2 at 7;"
                + "hands 1");
        Check.is("shortest first", 3 * (2 + 5 + 9 + 14 + 20 + 27 + 35 + 44), all::cost);
        Check.is("first", 7, all::first);
    }

    private static void knock(String blocks, int want) {
        DryDock x = Check.dock(blocks.isEmpty() ? "" : "blocks " + blocks);
        Check.is("knocks of " + blocks, want != -1, x::knocks);
        Check.is("knock of " + blocks, want, x::knock);
        Check.is("nothing is knocked out", blocks.isEmpty() ? 0 : blocks.split(" ").length, () -> x.count(10));
    }

    private static void knocks() {
        knock("", -1);
        knock("0", 0);
        knock("23", 46);
        knock("5 6", 11);
        knock("5 7", -1);
        knock("5 6 7", 12);
        knock("0 1 2 3", 3);
        knock("0 2 3", 4);
        knock("0 1 3 4", -1);
        knock("0 2 4", 0);
        knock("22 23", 45);
    }

    /** Values of rows of blocks by the rule of the game, in place of the written ones. */
    private static void wholeRows() {
        int[] value = new int[25];
        for (int n = 1; n <= 24; n++) {
            boolean[] seen = new boolean[64];
            for (int left = 0; left < n; left++) {
                seen[value[left] ^ value[n - 1 - left]] = true;
                if (left + 2 <= n) {
                    seen[value[left] ^ value[n - 2 - left]] = true;
                }
            }
            while (seen[value[n]]) {
                value[n]++;
            }
        }
        for (int n = 0; n <= 24; n++) {
            for (int m = 0; n + m <= 23; m++) {
                DryDock x = new DryDock();
                for (int i = 0; i < n; i++) {
                    x.block(i, true);
                }
                for (int i = 0; i < m; i++) {
                    x.block(n + 1 + i, true);
                }
                Check.is("rows of " + n + " and " + m, value[n] != value[m], x::knocks);
            }
        }
        java.util.Random random = new java.util.Random(1);
        for (int n = 0; n < 300; n++) {
            DryDock x = new DryDock();
            StringBuilder rows = new StringBuilder();
            for (int i = 0; i < 24; i++) {
                boolean is = random.nextInt(8) > 0;
                x.block(i, is);
                rows.append(is ? "x" : " ");
            }
            int worth = 0;
            for (String row : rows.toString().split(" ")) {
                worth ^= value[row.length()];
            }
            int all = worth;
            Check.is("rows " + rows, all != 0, x::knocks);
        }
        DryDock full = new DryDock();
        for (int i = 0; i < 24; i++) {
            full.block(i, true);
        }
        Check.is("all blocks: 5 and 17 left are worth the same", 2 * 5 + 1, full::knock);
    }

    private static void bed(String text, int... want) {
        DryDock x = Check.dock(text);
        Check.is("beds of " + text, want[0], () -> x.beds(-1));
        for (int i = 1; i < want.length; i++) {
            int ship = i - 1;
            Check.is("bed of " + ship + " of " + text, want[i], () -> x.beds(ship));
        }
    }

    private static void beds() {
        Check.is("beds of none", 0, () -> new DryDock().beds(-1));
        Check.is("no ship", "throws.IndexOutOfBoundsException", () -> new DryDock().beds(0));
        Check.is("no ship", "throws.IndexOutOfBoundsException", () -> new DryDock().beds(-2));
        bed("ship length 3 draught 20", 3, 0);
        bed("ship length 3 draught 1;ship length 3 draught 1", 6, 0, 3);
        bed("ship length 12 draught 1;ship length 12 draught 1;ship length 12 draught 1", 24, 0, 12, -1);
        bed("ship length 12 draught 1;ship length 11 draught 1;ship length 12 draught 1", 24, 0, -1, 12);
        bed("ship length 5 draught 1 at 3;ship length 4 draught 1;ship length 3 draught 1", 7, -1, 8, 12);
        bed("ship length 5 draught 1 at 3;ship length 3 draught 1;ship length 4 draught 1", 7, -1, 0, 8);
        bed("ship length 12 draught 1 at 8;ship length 9 draught 1;ship length 8 draught 1;ship length 4 draught 1", 12, -1, -1,
                0, 20);
        bed("ship length 12 draught 1 at 8;ship length 4 draught 1;ship length 8 draught 1", 8, -1, -1, 0);
        bed("ship length 12 draught 1 at 0;ship length 12 draught 1 at 12;ship length 1 draught 1", 0, -1, -1, -1);
    }

    private static void pair(String text, int... want) {
        DryDock x = Check.dock(text);
        Check.is("pairs of " + text, want[0], () -> x.pairs(-1));
        for (int i = 1; i < want.length; i++) {
            int ship = i - 1;
            Check.is("pair of " + ship + " of " + text, want[i], () -> x.pairs(ship));
        }
    }

    private static void pairs() {
        Check.is("pairs of none", 0, () -> new DryDock().pairs(-1));
        Check.is("no ship", "throws.IndexOutOfBoundsException", () -> new DryDock().pairs(0));
        Check.is("no ship", "throws.IndexOutOfBoundsException", () -> new DryDock().pairs(-2));
        pair("ship length 6 draught 1 work 3", 0, -1);
        pair("ship length 6 draught 1 work 3;ship length 6 draught 1 work 4", 7, 1, 0);
        pair("ship length 6 draught 1 work 3;ship length 7 draught 1 work 4", 0, -1, -1);
        pair("ship length 6 draught 1;ship length 6 draught 1", 0, -1, -1);
        pair("ship length 6 draught 1 work 0;ship length 6 draught 1 work 1", 1, 1, 0);
        pair("ship length 1 draught 1 work 5;ship length 1 draught 1 work 5;ship length 1 draught 1 work 5", 10, -1, 2, 1);
        pair("ship length 1 draught 1 work 5;ship length 1 draught 1 work 5;ship length 1 draught 1 work 5;"
                + "ship length 1 draught 1 work 5", 20, 1, 0, 3, 2);
        pair("ship length 11 draught 1 work 5;ship length 1 draught 1 work 5;ship length 11 draught 1 work 9;"
                + "ship length 2 draught 1 work 1", 14, -1, 2, 1, -1);
        DryDock x = Check.dock("ship length 1 draught 1 work 9 at 0;ship length 1 draught 1 work 5;ship length 1 draught 1 work 5");
        Check.is("pair of 0", 1, () -> x.pairs(0));
        x.leave(0);
        Check.is("one gone", -1, () -> x.pairs(0));
        Check.is("without the one gone", 10, () -> x.pairs(-1));
        Check.is("without the one gone", 2, () -> x.pairs(1));
    }

    private static void rests() {
        DryDock x = Check.dock("ship length 1 draught 20;ship length 12 draught 1;hands 0");
        Check.is("both sail, or both wait", 9, () -> x.rests(0));
        Check.is("both sail, or both wait", 9, () -> x.rests(1));
        x.hands(9);
        Check.is("with hands", 9, () -> x.rests(1));
        Check.is("no ship", "throws.IndexOutOfBoundsException", () -> x.rests(2));
        Check.is("no ship", "throws.IndexOutOfBoundsException", () -> x.rests(-1));
    }

    private static void odds() {
        DryDock x = Check.dock("surge 1");
        Check.is("half", 5000, () -> x.odds(1, 1));
        Check.is("half of half", 2500, () -> x.odds(2, 2));
        Check.is("not none", 7500, () -> x.odds(2, 1));
        Check.is("more than there are", 0, () -> x.odds(2, 3));
        Check.is("none at least", 10000, () -> x.odds(5, 0));
        Check.is("of no hours", 10000, () -> x.odds(0, 0));
        Check.is("of no hours", 0, () -> x.odds(0, 1));
        Check.is("32", 312, () -> x.odds(5, 5));
        Check.is("3 of 5", 5000, () -> x.odds(5, 3));
        DryDock y = Check.dock("surge 5;shut");
        Check.is("5 of 6, rounded down", 8333, () -> y.odds(1, 1));
        Check.is("3125 of 7776", 4018, () -> y.odds(5, 5));
        Check.is("7775 of 7776", 9998, () -> y.odds(5, 1));
        Check.is("surge 2: 1 of 4 at least", 9876, () -> Check.dock("surge 2").odds(4, 1));
        Check.is("without surge", 0, () -> new DryDock().odds(5, 1));
        int[][] wrong = {{-1, 0}, {6, 0}, {0, -1}, {0, 6}};
        for (int[] w : wrong) {
            Check.is("no number", "throws.IllegalArgumentException", () -> y.odds(w[0], w[1]));
        }
    }
}
