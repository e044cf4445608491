/** "==== 3." of the terms, what is asked of ships, places and hours: each at its edges, and where there is none. */
public final class EdgeAsksTest {
    public static void main(String[] args) {
        when();
        fits();
        room();
        shares();
        dry();
        ready();
        ease();
        mosts();
        sets();
        twins();
        waters();
        oddsOfAll();
        rests();
        Check.end("EdgeAsksTest");
    }

    /** "WHEN of a SHIP: the first N (0 to 60) such that TIDE of the hour HOUR and N is its DRAUGHT at least; none". */
    private static void when() {
        for (int from = 0; from < 12; from++) {
            for (int high = 0; high < 12; high++) {
                String tide = "tide" + " 14".repeat(high) + " 15" + " 14".repeat(11 - high);
                DryDock x = Check.dock(tide + ";ship length 1 draught 15;ship length 1 draught 15 at 0;hour " + (from + 24));
                int due = Math.floorMod(high - from, 12);
                Check.is("when, from " + from + " to " + high, due, () -> x.ship(0, 10));
                Check.is("of one docked", due, () -> x.ship(1, 10));
            }
        }
        DryDock x = Check.dock("ship length 1 draught 20;ship length 1 draught 1;tide 19 19 19 19 19 19 19 19 19 19 19 19");
        Check.is("one too deep", -1, () -> x.ship(0, 10));
        x.flow(0, 20);
        Check.is("now", 0, () -> x.ship(0, 10));
        x.hours(1);
        Check.is("in eleven", 11, () -> x.ship(0, 10));
        DryDock dry = Check.dock("ship length 1 draught 1;tide" + " 0".repeat(12));
        Check.is("never", -1, () -> dry.ship(0, 10));
        DryDock gone = Check.dock("ship length 1 draught 1 at 0;tide" + " 0".repeat(12));
        gone.leave(0);
        Check.is("of one gone: never", -1, () -> gone.ship(0, 10));
        gone.flow(5, 1);
        Check.is("of one gone", 5, () -> gone.ship(0, 10));
    }

    private static boolean free(DryDock x, int place, int length) {
        for (int i = place; i < place + length; i++) {
            if (i >= 24 || x.place(i, 1) != -1) {
                return false;
            }
        }
        return true;
    }

    /** "FITS of a SHIP (WAITING): the first PLACE at which its PLACES are free and in the dock; none". */
    private static void fits() {
        for (int at = 0; at <= 14; at++) {
            for (int length = 1; length <= 12; length++) {
                DryDock x = Check.dock("ship length " + length + " draught 20;ship length 10 draught 20 at " + at + ";level 0;shut");
                int due = length <= at ? 0 : length <= 14 - at ? at + 10 : -1;
                Check.is("length " + length + " beside 10 at " + at, due, () -> x.ship(0, 11));
                Check.that("it is free there", due == -1 || free(x, due, length));
                Check.is("of one docked", -1, () -> x.ship(1, 11));
            }
        }
        DryDock x = Check.dock("ship length 12 draught 1 at 0;ship length 1 draught 1");
        x.leave(0);
        Check.is("of one gone", -1, () -> x.ship(0, 11));
        Check.is("where one was", 0, () -> x.ship(1, 11));
        DryDock full = Check.dock("ship length 12 draught 1 at 0;ship length 12 draught 1 at 12;ship length 1 draught 1");
        Check.is("full", -1, () -> full.ship(2, 11));
    }

    /** "ROOM: the most free PLACES one behind another". */
    private static void room() {
        for (int one = 0; one <= 20; one++) {
            for (int two = one + 3; two <= 23; two++) {
                DryDock x = Check.dock("ship length 3 draught 1 at " + one + ";ship length 1 draught 1 at " + two);
                int due = Math.max(one, Math.max(two - one - 3, 23 - two));
                Check.is("room of 3 at " + one + ", 1 at " + two, due, x::room);
            }
        }
        Check.is("all", 24, () -> new DryDock().room());
        DryDock full = Check.dock("ship length 12 draught 1 at 0;ship length 12 draught 1 at 12");
        Check.is("none", 0, full::room);
        full.leave(1);
        Check.is("half", 12, full::room);
        Check.is("one waiting takes none", 24, () -> Check.dock("ship length 9 draught 1").room());
    }

    /** "SHARE .. in hundredths, rounded down (0 without; 0 of one GONE)". */
    private static void shares() {
        int[] works = {0, 1, 2, 3, 33, 49, 50, 51, 98, 99};
        for (int a : works) {
            for (int b : works) {
                DryDock x = Check.dock("ship length 1 draught 1 work " + a + " at 3;ship length 1 draught 1 work " + b
                        + ";ship length 1 draught 1 work 99 at 9");
                x.leave(2);
                int due = a + b == 0 ? 0 : a * 100 / (a + b);
                Check.is("share of " + a + " with " + b, due, () -> x.ship(0, 12));
                Check.is("of one gone", 0, () -> x.ship(2, 12));
                x.leave(0);
                Check.is("alone", b == 0 ? 0 : 100, () -> x.ship(1, 12));
            }
        }
        DryDock gone = Check.dock("ship length 1 draught 1 work 5 at 0");
        gone.leave(0);
        Check.is("without any", 0, () -> gone.ship(0, 12));
        DryDock eight = Check.dock("ship length 1 draught 1 work 1" + ";ship length 1 draught 1 work 99".repeat(7));
        Check.is("1 of 694", 0, () -> eight.ship(0, 12));
        Check.is("99 of 694", 14, () -> eight.ship(7, 12));
    }

    /** "DRY: the first N (0 to 60) IN which LEVEL is 2 at most": now, at the 60th hour, and one hour later: none. */
    private static void dry() {
        for (int level = 0; level <= 4; level++) {
            DryDock x = Check.dock("level " + level + ";shut;pumps 1;tide" + " 0".repeat(12));
            Check.is("dry from level " + level, Math.max(0, level - 2), x::dry);
        }
        DryDock x = Check.dock("level 40;shut;pumps 0;tide" + " 0".repeat(12));
        Check.law(x, "pull 8 if hour < 1");
        Check.is("in 60", 60, x::dry);
        Check.is("level in 59", 8, () -> x.ahead(59, false));
        Check.is("level in 60", 0, () -> x.ahead(60, false));
        x.hours(1);
        Check.is("in 59", 59, x::dry);
        Check.law(x, "pull 7 if hour > 0 and hour < 2");
        Check.is("level in 60", 5, () -> x.ahead(60, false));
        Check.is("in 60 it is not yet", -1, x::dry);
        DryDock last = Check.dock("level 37;shut;pumps 0;hour 1;tide" + " 0".repeat(12));
        Check.law(last, "pull 7 if hour > 0 and hour < 2");
        Check.is("in 60", 60, last::dry);
        DryDock late = Check.dock("level 37;shut;pumps 0;tide" + " 0".repeat(12));
        Check.law(late, "pull 7 if hour > 0 and hour < 2");
        Check.is("in 49", 49, late::dry);
        DryDock later = Check.dock("level 38;shut;pumps 0;tide" + " 0".repeat(12));
        Check.law(later, "pull 7 if hour > 0 and hour < 2");
        Check.is("in 61: none", -1, later::dry);
        DryDock surging = Check.dock("surge 5;tide" + " 2".repeat(12));
        Check.is("without surge", 1, surging::dry);
        Check.is("with an OPEN gate", 11, () -> Check.dock("tide 9 9 9 9 9 9 9 9 9 9 9 2").dry());
        Check.is("never", -1, () -> Check.dock("tide" + " 3".repeat(12)).dry());
    }

    /** "READY: the first N (0 to 60) IN which no DOCKED SHIP has WORK". */
    private static void ready() {
        String basin = ";blocks 0;hands 1;shut;level 0;pumps 9";
        int[][] cases = {{0, 0}, {1, 1}, {2, 2}, {59, 59}, {60, 60}, {61, -1}, {99, -1}};
        for (int[] c : cases) {
            DryDock x = Check.dock("ship length 1 draught 9 work " + c[0] + " at 0;ship length 1 draught 1 work 50" + basin);
            Check.is("ready of work " + c[0], c[1], x::ready);
        }
        Check.is("without ships", 0, () -> new DryDock().ready());
        Check.is("none docked", 0, () -> Check.dock("ship length 1 draught 1 work 5").ready());
        DryDock gone = Check.dock("ship length 1 draught 1 work 5 at 0");
        Check.is("never", -1, gone::ready);
        gone.leave(0);
        Check.is("one gone", 0, gone::ready);
        DryDock hurt = Check.dock("ship length 1 draught 9 at 0;hands 0;tide 10 0");
        Check.is("without work it is, though one will be hurt", 0, hurt::ready);
        hurt.hours(1);
        Check.is("behind that it never is", -1, hurt::ready);
    }

    /** "EASE: the first N (0 to 60) IN which it is EVEN, or THE GATE OPEN". */
    private static void ease() {
        String flat = ";shut;pumps 0;tide" + " 30".repeat(12);
        Check.is("level 31", 0, () -> Check.dock("level 31" + flat).ease());
        Check.is("level 32", -1, () -> Check.dock("level 32" + flat).ease());
        Check.is("level 29", 0, () -> Check.dock("level 29" + flat).ease());
        Check.is("level 28", 1, () -> Check.dock("level 28" + flat).ease());
        Check.is("level 0", 29, () -> Check.dock("level 0" + flat).ease());
        Check.is("open and uneven", 0, () -> Check.dock("level 0;tide 30").ease());
        DryDock x = Check.dock("level 40" + flat);
        Check.law(x, "pull 2 if hour < 1");
        Check.is("in 60", 60, x::ease);
        Check.law(x, "pull 1 if hour > 0 and hour < 2");
        Check.is("none", -1, x::ease);
        DryDock at49 = Check.dock("level 36" + flat);
        Check.law(at49, "pull 1 if hour > 0 and hour < 2");
        Check.is("in 49", 49, at49::ease);
        DryDock at61 = Check.dock("level 37" + flat);
        Check.law(at61, "pull 1 if hour > 0 and hour < 2");
        Check.is("in 61: none", -1, at61::ease);
        DryDock tide = Check.dock("level 20;shut;pumps 0;tide 0 0 0 0 0 19");
        Check.is("when the tide comes to it", 5, tide::ease);
    }

    /** "LONGEST, DEEPEST (by DRAUGHT), BUSIEST (by WORK): of SHIPS not GONE (of several the least; none, each)". */
    private static void mosts() {
        String[] shape = {"length 5 draught 1 work 1", "length 1 draught 5 work 1", "length 1 draught 1 work 5"};
        for (int i = 0; i < 3; i++) {
            int what = i;
            String like = "ship length 1 draught 1 work 1 at 0;ship " + shape[i] + " at 2;ship " + shape[i] + " at 10";
            DryDock x = Check.dock(like);
            Check.is("most " + i + ", of several the least", 1, () -> x.most(what));
            x.leave(1);
            Check.is("most " + i + ", not gone", 2, () -> x.most(what));
            x.leave(2);
            Check.is("most " + i + ", not gone", 0, () -> x.most(what));
            x.leave(0);
            Check.is("most " + i + ", none", -1, () -> x.most(what));
            Check.is("most " + i + ", none", -1, () -> new DryDock().most(what));
            DryDock by1 = Check.dock("ship " + shape[i].replace("5", "11") + ";ship " + shape[i].replace("5", "12"));
            Check.is("most " + i + ", by 1", 1, () -> by1.most(what));
        }
        DryDock idle = Check.dock("ship length 1 draught 1;ship length 1 draught 1");
        Check.is("busiest of those without work", 0, () -> idle.most(2));
        for (int what : new int[] {-1, 3, Integer.MIN_VALUE, Integer.MAX_VALUE}) {
            Check.refused("most " + what, Check.ELEMENT, DryDock::new, x -> x.most(what));
            Check.refused("most " + what, Check.ELEMENT, () -> Check.dock("ship length 1 draught 1"), x -> x.most(what));
        }
    }

    /** "WAITING, DOCKED, GONE ones, HURT ones, as bits". */
    private static void sets() {
        DryDock x = new DryDock();
        for (int i = 0; i < 8; i++) {
            x.comes(1, 9, 0);
        }
        Check.is("all wait", 255, x::waiting);
        Check.is("none docked", 0, x::docked);
        for (int i = 0; i < 8; i++) {
            x.enter(i, 3 * i);
        }
        Check.is("none wait", 0, x::waiting);
        Check.is("all docked", 255, x::docked);
        x.flow(1, 0);
        x.hours(1);
        Check.is("all hurt", 255, x::hurt);
        x.hours(1);
        for (int i = 0; i < 8; i++) {
            x.leave(i);
        }
        Check.is("all gone", 255, x::gone);
        Check.is("none docked", 0, x::docked);
        Check.is("all hurt, though gone", 255, x::hurt);
    }

    /** "TWINS: pairs of SHIPS of like LENGTH and DRAUGHT". */
    private static void twins() {
        for (int n = 0; n <= 8; n++) {
            DryDock x = new DryDock();
            for (int i = 0; i < n; i++) {
                x.comes(4, 5, i);
            }
            Check.is(n + " alike", n * (n - 1) / 2, x::twins);
        }
        Check.is("another length", 0, () -> Check.dock("ship length 4 draught 5;ship length 5 draught 5").twins());
        Check.is("another draught", 0, () -> Check.dock("ship length 4 draught 5;ship length 4 draught 4").twins());
        Check.is("one docked", 1, () -> Check.dock("ship length 4 draught 5 at 1;ship length 4 draught 5").twins());
    }

    /** "HIGH WATER: the hour (0 to 11) of the most TIDE; LOW WATER: of the least (of several the least)". */
    private static void waters() {
        for (int hour = 0; hour < 12; hour++) {
            int one = hour;
            DryDock x = new DryDock();
            x.flow(hour, 11);
            Check.is("high alone", one, () -> x.water(true));
            Check.is("low of the others", hour == 0 ? 1 : 0, () -> x.water(false));
            x.flow(hour, 9);
            Check.is("low alone", one, () -> x.water(false));
            Check.is("high of the others", hour == 0 ? 1 : 0, () -> x.water(true));
            for (int later = hour + 1; later < 12; later++) {
                DryDock y = new DryDock();
                y.flow(hour, 30);
                y.flow(later, 30);
                Check.is("high, of several the least", one, () -> y.water(true));
                y.flow(hour, 0);
                y.flow(later, 0);
                Check.is("low, of several the least", one, () -> y.water(false));
            }
        }
        DryDock x = Check.dock("hour 7;tide 0 1 2 3 4 5 6 7 8 9 10 11");
        Check.is("whatever HOUR is", 11, () -> x.water(true));
        Check.is("whatever HOUR is", 0, () -> x.water(false));
    }

    /** "ODDS of N (0 to 5) and K (0 to 5)": all draws gone through. */
    private static void oddsOfAll() {
        for (int surge = 0; surge <= 5; surge++) {
            DryDock x = Check.dock("surge " + surge);
            for (int n = 0; n <= 5; n++) {
                int all = 1;
                for (int i = 0; i < n; i++) {
                    all *= surge + 1;
                }
                for (int k = 0; k <= 5; k++) {
                    oddsAre(x, n, k, all, surge + 1);
                }
            }
        }
        int[][] wrong = {{-1, 0}, {6, 0}, {0, -1}, {0, 6}, {-1, -1}, {6, 6}, {Integer.MIN_VALUE, 0}, {Integer.MAX_VALUE, 0},
            {5, Integer.MIN_VALUE}, {5, Integer.MAX_VALUE}};
        for (int[] w : wrong) {
            Check.refused("odds " + w[0] + ", " + w[1], Check.ARGUMENT, () -> Check.dock("surge 3"), x -> x.odds(w[0], w[1]));
        }
    }

    private static void oddsAre(DryDock x, int n, int k, int all, int sides) {
        long with = 0;
        for (int draw = 0; draw < all; draw++) {
            int above = 0;
            for (int rest = draw, i = 0; i < n; i++, rest /= sides) {
                above += rest % sides > 0 ? 1 : 0;
            }
            with += above >= k ? 1 : 0;
        }
        long due = with * 10000 / all;
        Check.is("odds " + n + ", " + k + " of surge " + (sides - 1), due, () -> x.odds(n, k));
    }

    /** "choices .. from which neither would have more by its other one: as bits". */
    private static void rests() {
        for (int length = 1; length <= 12; length++) {
            for (int draught = 1; draught <= 20; draught++) {
                DryDock x = Check.dock("ship length " + length + " draught " + draught);
                for (int hands = 0; hands <= 9; hands += 3) {
                    x.hands(hands);
                    int[] master = {length, -3, -draught, hands};
                    int[] pilot = {2, 1, -1, 1};
                    int due = 0;
                    for (int choice = 0; choice < 4; choice++) {
                        boolean rests = master[choice ^ 2] <= master[choice] && pilot[choice ^ 1] <= pilot[choice];
                        due |= rests ? 1 << choice : 0;
                    }
                    int bits = due;
                    Check.is("rests", bits, () -> x.rests(0));
                }
            }
        }
    }
}
