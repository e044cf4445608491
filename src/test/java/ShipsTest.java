/** Promises 7 to 9, 22, 41 to 47: what is asked of ships, places and tides. */
public final class ShipsTest {
    public static void main(String[] args) {
        ships();
        borne();
        whenAndFits();
        shares();
        places();
        rooms();
        mosts();
        sets();
        waters();
        Check.end("ShipsTest");
    }

    private static void ships() {
        DryDock x = Check.dock("ship length 5 draught 10 work 7 at 2;ship length 4 draught 11 at 10;ship length 2 draught 3");
        int[][] want = {{5, 10, 7, 1, 2, 0, 15, 1, 0, 1, 0, -1, 100}, {4, 11, 0, 1, 10, 0, 12, 0, 0, 1, -1, -1, 0},
            {2, 3, 0, 0, -1, 0, 6, 0, 0, -1, 0, 0, 0}};
        for (int i = 0; i < 3; i++) {
            for (int k = 0; k <= 12; k++) {
                int ship = i;
                int what = k;
                Check.is("ship " + i + " what " + k, want[i][k], () -> x.ship(ship, what));
            }
        }
        Check.is("no ship -1", "throws.IndexOutOfBoundsException", () -> x.ship(-1, 0));
        Check.is("no ship 3", "throws.IndexOutOfBoundsException", () -> x.ship(3, 13));
        Check.is("no what 13", "throws.NoSuchElementException", () -> x.ship(0, 13));
        Check.is("no what -1", "throws.NoSuchElementException", () -> x.ship(0, -1));
        x.leave(0);
        Check.is("gone", 2, () -> x.ship(0, 3));
        Check.is("gone: place", -1, () -> x.ship(0, 4));
        Check.is("gone: afloat", 0, () -> x.ship(0, 7));
        Check.is("gone: borne", 0, () -> x.ship(0, 8));
        Check.is("gone: wedges", -1, () -> x.ship(0, 9));
        Check.is("gone: when", 0, () -> x.ship(0, 10));
        Check.is("gone: fits", -1, () -> x.ship(0, 11));
        Check.is("gone: share", 0, () -> x.ship(0, 12));
        Check.is("gone: work", 7, () -> x.ship(0, 2));
    }

    private static void borneBy(String ship, String blocks, int borne, int wedges) {
        DryDock x = Check.dock("ship " + ship + (blocks.isEmpty() ? "" : ";blocks " + blocks));
        Check.is(ship + " borne by " + blocks, borne, () -> x.ship(0, 8));
        Check.is(ship + " wedges with " + blocks, wedges, () -> x.ship(0, 9));
    }

    private static void borne() {
        borneBy("length 1 draught 1 at 5", "", 0, 1);
        borneBy("length 1 draught 1 at 5", "4 6", 0, 1);
        borneBy("length 1 draught 1 at 5", "5", 1, 0);
        borneBy("length 2 draught 1 at 5", "6", 1, 0);
        borneBy("length 2 draught 1 at 5", "4 7", 0, 1);
        borneBy("length 3 draught 1 at 5", "7", 1, 0);
        borneBy("length 3 draught 1 at 5", "8 4", 0, 1);
        borneBy("length 4 draught 1 at 5", "5", 0, 1);
        borneBy("length 4 draught 1 at 5", "6", 1, 0);
        borneBy("length 5 draught 1 at 0", "2", 1, 0);
        borneBy("length 5 draught 1 at 0", "0", 0, 1);
        borneBy("length 5 draught 1 at 0", "1", 0, 1);
        borneBy("length 12 draught 1 at 12", "", 0, 4);
        borneBy("length 12 draught 1 at 12", "14 17 20", 0, 1);
        borneBy("length 12 draught 1 at 12", "14 17 20 21", 1, 0);
        borneBy("length 12 draught 1 at 12", "12 23", 0, 3);
        borneBy("length 11 draught 1 at 0", "", 0, 3);
        borneBy("length 8 draught 1 at 0", "3", 0, 2);
        borneBy("length 8 draught 1 at 0", "2", 0, 1);
    }

    private static void whenAndFits() {
        DryDock x = Check.dock("ship length 3 draught 12;ship length 12 draught 20;ship length 10 draught 1 at 0;"
                + "ship length 6 draught 1 at 13;tide 12 0 0 0 0 0 0 0 0 0 0 11;hour 25");
        Check.is("when: the tide of 12 hours", 11, () -> x.ship(0, 10));
        Check.is("when: never", -1, () -> x.ship(1, 10));
        Check.is("fits: the first three free", 10, () -> x.ship(0, 11));
        Check.is("fits: nowhere", -1, () -> x.ship(1, 11));
        Check.is("fits: not one that lies", -1, () -> x.ship(2, 11));
        x.flow(1, 20);
        Check.is("when: at once", 0, () -> x.ship(1, 10));
        DryDock y = Check.dock("ship length 5 draught 1;ship length 10 draught 1 at 0;ship length 6 draught 1 at 13");
        Check.is("fits: at the end", 19, () -> y.ship(0, 11));
        DryDock z = Check.dock("ship length 6 draught 1;ship length 10 draught 1 at 0;ship length 6 draught 1 at 13");
        Check.is("fits: not beyond the end", -1, () -> z.ship(0, 11));
    }

    private static void shares() {
        DryDock x = Check.dock("ship length 1 draught 1 work 1 at 0;ship length 1 draught 1 work 2;ship length 1 draught 1");
        Check.is("share, rounded down", 33, () -> x.ship(0, 12));
        Check.is("share, rounded down", 66, () -> x.ship(1, 12));
        Check.is("share of no work", 0, () -> x.ship(2, 12));
        x.leave(0);
        Check.is("share without those gone", 100, () -> x.ship(1, 12));
        Check.is("share of one gone", 0, () -> x.ship(0, 12));
        DryDock one = Check.dock("ship length 1 draught 1 work 1");
        Check.is("share of all, which is 1", 100, () -> one.ship(0, 12));
        DryDock y = Check.dock("ship length 1 draught 1");
        Check.is("share of nothing", 0, () -> y.ship(0, 12));
    }

    private static void places() {
        DryDock x = Check.dock("ship length 3 draught 1;ship length 3 draught 1 at 4;blocks 0 23");
        int[] on = {-1, -1, -1, -1, 1, 1, 1, -1};
        for (int i = 0; i < on.length; i++) {
            int place = i;
            Check.is("ship on " + i, on[i], () -> x.place(place, 1));
        }
        Check.is("block 0", 1, () -> x.place(0, 0));
        Check.is("block 1", 0, () -> x.place(1, 0));
        Check.is("block 23", 1, () -> x.place(23, 0));
        Check.is("no place 24", "throws.IndexOutOfBoundsException", () -> x.place(24, 9));
        Check.is("no place -1", "throws.IndexOutOfBoundsException", () -> x.place(-1, 0));
        Check.is("no what 2", "throws.NoSuchElementException", () -> x.place(0, 2));
        Check.is("no what -1", "throws.NoSuchElementException", () -> x.place(0, -1));
        Check.is("no hour 12", "throws.IndexOutOfBoundsException", () -> x.tide(12));
        Check.is("no hour -1", "throws.IndexOutOfBoundsException", () -> x.tide(-1));
        x.enter(0, 21);
        Check.is("0 on 23", 0, () -> x.place(23, 1));
        Check.is("0 on 21", 0, () -> x.place(21, 1));
        Check.is("nobody on 20", -1, () -> x.place(20, 1));
        DryDock last = Check.dock("ship length 1 draught 1 at 23");
        Check.is("at 23", 23, () -> last.ship(0, 4));
        x.leave(1);
        Check.is("nobody on 4", -1, () -> x.place(4, 1));
    }

    private static void rooms() {
        Check.is("room of all", 24, () -> new DryDock().room());
        Check.is("room behind", 11, () -> Check.dock("ship length 5 draught 1 at 8").room());
        Check.is("room ahead", 12, () -> Check.dock("ship length 5 draught 1 at 12").room());
        Check.is("room between", 8, () -> Check.dock("ship length 8 draught 1 at 0;ship length 8 draught 1 at 16").room());
        DryDock full = Check.dock("ship length 12 draught 1 at 0;ship length 12 draught 1 at 12");
        Check.is("no room", 0, full::room);
        Check.is("no free places", 0, () -> full.count(11));
    }

    private static void mosts() {
        DryDock none = new DryDock();
        for (int i = 0; i < 3; i++) {
            int what = i;
            Check.is("most of none", -1, () -> none.most(what));
        }
        Check.is("most 3", "throws.NoSuchElementException", () -> none.most(3));
        Check.is("most -1", "throws.NoSuchElementException", () -> none.most(-1));
        DryDock x = Check.dock("ship length 2 draught 2 work 0 at 0;ship length 9 draught 8 work 4 at 4;"
                + "ship length 9 draught 3 work 9;ship length 1 draught 8 work 9");
        Check.is("longest, of several the least", 1, () -> x.most(0));
        Check.is("deepest, of several the least", 1, () -> x.most(1));
        Check.is("busiest, of several the least", 2, () -> x.most(2));
        x.leave(1);
        Check.is("longest not gone", 2, () -> x.most(0));
        Check.is("deepest not gone", 3, () -> x.most(1));
        DryDock y = Check.dock("ship length 2 draught 2 at 0;ship length 3 draught 3 at 2");
        Check.is("busiest without work", 0, () -> y.most(2));
        y.leave(0);
        Check.is("busiest without work, one gone", 1, () -> y.most(2));
        y.leave(1);
        Check.is("all gone", -1, () -> y.most(0));
    }

    private static void sets() {
        DryDock x = Check.dock("ship length 2 draught 9 at 0;ship length 2 draught 9;ship length 2 draught 3 at 4;"
                + "ship length 2 draught 9 at 10;ship length 2 draught 3;blocks 0;tide 10 5");
        Check.is("waiting", 2 + 16, x::waiting);
        Check.is("docked", 1 + 4 + 8, x::docked);
        Check.is("gone", 0, x::gone);
        Check.is("hurt", 0, x::hurt);
        Check.is("twins", 4, x::twins);
        x.hours(1);
        Check.is("hurt: those that sit and are not borne", 8, x::hurt);
        x.hours(1);
        x.leave(3);
        x.leave(2);
        Check.is("docked", 1, x::docked);
        Check.is("gone", 4 + 8, x::gone);
        Check.is("hurt, though gone", 8, x::hurt);
        Check.is("twins, though gone", 4, x::twins);
        Check.is("no twins", 0, () -> new DryDock().twins());
        Check.is("none waiting", 0, () -> new DryDock().waiting());
    }

    private static void waters() {
        DryDock x = new DryDock();
        Check.is("high: of several the least", 0, () -> x.water(true));
        Check.is("low: of several the least", 0, () -> x.water(false));
        x.flow(11, 12);
        x.flow(4, 3);
        x.flow(7, 3);
        Check.is("high", 11, () -> x.water(true));
        Check.is("low", 4, () -> x.water(false));
        x.flow(10, 12);
        Check.is("high, the least", 10, () -> x.water(true));
        x.flow(1, 13);
        Check.is("high by 1", 1, () -> x.water(true));
        x.flow(1, 2);
        Check.is("low by 1", 1, () -> x.water(false));
    }
}
