/**
 * "Terms", ahead of the texts: the bounds of each number, on both sides, and what it is at first. The comment of each
 * method has the document's words.
 */
public final class EdgeTermsTest {
    private static final int[] FAR = {Integer.MIN_VALUE, Integer.MIN_VALUE + 1, -256, -2, Integer.MAX_VALUE - 1,
        Integer.MAX_VALUE};

    public static void main(String[] args) {
        atFirst();
        places();
        eightShips();
        eightShipsByText();
        lengths();
        draughts();
        works();
        mostWorkByHurt();
        lying();
        standing();
        tides();
        tideNow();
        levels();
        levelsByHours();
        pumpsAndHands();
        surges();
        hourOfTexts();
        lastHour();
        purses();
        manyCalls();
        Check.end("EdgeTermsTest");
    }

    private static void wrongShip(int length, int draught, int work) {
        Check.refused("comes " + length + " " + draught + " " + work, Check.ARGUMENT, DryDock::new,
                x -> x.comes(length, draught, work));
    }

    /** "(at none at first)", "(10 each at first)", "(10 at first)", "OPEN (at first)", 2, 3, 0, 0, 0 at first. */
    private static void atFirst() {
        DryDock x = new DryDock();
        int[] counts = {0, 0, -1, 10, 1, 2, 3, 0, 0, 0, 0, 24, 0, 0, 0, -1};
        for (int i = 0; i < counts.length; i++) {
            int what = i;
            Check.is("first count " + i, counts[i], () -> x.count(what));
        }
        for (int i = 0; i < 24; i++) {
            int place = i;
            Check.is("no block at " + i, 0, () -> x.place(place, 0));
            Check.is("no ship at " + i, -1, () -> x.place(place, 1));
        }
        for (int i = 0; i < 12; i++) {
            int hour = i;
            Check.is("first tide " + i, 10, () -> x.tide(hour));
        }
        Check.is("SEED 1 at first", 1, () -> x.seed(1));
        Check.is("fault ahead of any text", -1, x::fault);
        Check.is("none waiting", 0, x::waiting);
        Check.is("none docked", 0, x::docked);
        Check.is("none gone", 0, x::gone);
        Check.is("none hurt", 0, x::hurt);
        Check.is("room of all", 24, x::room);
        Check.is("even", true, x::even);
        Check.is("pulls", 2, x::pulls);
        Check.is("leaks", 0, x::leaks);
    }

    /** "PLACES 0 to 23 in a row". */
    private static void places() {
        for (int i = 0; i < 24; i++) {
            int place = i;
            DryDock x = new DryDock();
            x.comes(1, 1, 0);
            Check.is("a block at " + i, true, () -> x.block(place, true));
            Check.is("let in at " + i, 23, () -> x.enter(0, place));
            for (int k = 0; k < 24; k++) {
                int other = k;
                Check.is("block at " + k, k == i ? 1 : 0, () -> x.place(other, 0));
                Check.is("ship at " + k, k == i ? 0 : -1, () -> x.place(other, 1));
            }
        }
        noPlace(-1);
        noPlace(24);
        for (int far : FAR) {
            noPlace(far);
        }
    }

    private static void noPlace(int place) {
        Check.Maker one = () -> Check.dock("ship length 1 draught 1;blocks 0 23");
        Check.refused("place " + place, Check.INDEX, one, x -> x.place(place, 0));
        Check.refused("ship of place " + place, Check.INDEX, one, x -> x.place(place, 1));
        Check.refused("another what of place " + place, Check.INDEX, one, x -> x.place(place, 2));
        Check.refused("block at " + place, Check.INDEX, one, x -> x.block(place, true));
        Check.refused("no block at " + place, Check.INDEX, one, x -> x.block(place, false));
        Check.refused("enter " + place, Check.INDEX, one, x -> x.enter(0, place));
    }

    /** "SHIPS (at most 8, numbered from 0 on)". */
    private static void eightShips() {
        DryDock x = new DryDock();
        for (int i = 0; i < 8; i++) {
            int number = i;
            Check.is("not there yet: " + i, "throws." + Check.INDEX, () -> x.ship(number, 0));
            Check.is("it comes: " + i, number, () -> x.comes(number + 1, 1, 0));
            Check.is("it is there: " + i, number + 1, () -> x.ship(number, 0));
        }
        Check.is("ship 8 is none", "throws." + Check.INDEX, () -> x.ship(8, 0));
        Check.refused("a ninth comes", Check.STATE, EdgeTermsTest::eight, y -> y.comes(1, 1, 0));
        for (int number : new int[] {-1, 8, Integer.MIN_VALUE, Integer.MAX_VALUE}) {
            noShip(number, EdgeTermsTest::eight);
        }
        for (int number : new int[] {-1, 0}) {
            noShip(number, DryDock::new);
        }
        noShip(1, () -> Check.dock("ship length 1 draught 1 at 0"));
        noShip(7, () -> Check.dock("ship length 1 draught 1 at 0"));
    }

    private static DryDock eight() {
        DryDock x = new DryDock();
        for (int i = 0; i < 8; i++) {
            x.comes(1, 1, 1);
        }
        return x;
    }

    private static void noShip(int ship, Check.Maker maker) {
        String what = "no ship " + ship + ": ";
        Check.refused(what + "ship", Check.INDEX, maker, x -> x.ship(ship, 0));
        Check.refused(what + "another what", Check.INDEX, maker, x -> x.ship(ship, 13));
        Check.refused(what + "enter", Check.INDEX, maker, x -> x.enter(ship, 0));
        Check.refused(what + "enter no place", Check.INDEX, maker, x -> x.enter(ship, 24));
        Check.refused(what + "leave", Check.INDEX, maker, x -> x.leave(ship));
        Check.refused(what + "rests", Check.INDEX, maker, x -> x.rests(ship));
        Check.refused(what + "led", Check.INDEX, maker, x -> x.led(ship, false));
        Check.refused(what + "led, hour", Check.INDEX, maker, x -> x.led(ship, true));
        if (ship != -1) {
            Check.refused(what + "beds", Check.INDEX, maker, x -> x.beds(ship));
            Check.refused(what + "pairs", Check.INDEX, maker, x -> x.pairs(ship));
        }
    }

    /** The same by texts: "a SHIP too many, the first word". */
    private static void eightShipsByText() {
        String ship = "ship length 1 draught 1";
        String eight = ship + (";" + ship).repeat(7);
        Check.dockAt(eight);
        Check.dockAt(eight + ";|" + ship);
        DryDock x = Check.dock(eight);
        Check.is("eight", 8, () -> x.count(0));
        Check.is("the last one waits", 0, () -> x.ship(7, 3));
        Check.dockAt(x, "level 3; |" + ship);
        Check.dockAt(x, "|ship");
        Check.dockAt(x, "|ship x");
        Check.dockAt(x, "level 3");
        DryDock y = Check.dock(ship + (";" + ship).repeat(6));
        Check.dockAt(y, ship + ";|" + ship);
        Check.is("of a wrong text no ship stays", 7, () -> y.count(0));
        Check.dockAt(y, ship);
        Check.is("eight", 8, () -> y.count(0));
        Check.is("a ninth comes", "throws." + Check.STATE, () -> y.comes(1, 1, 0));
    }

    /** "LENGTH 1 to 12". */
    private static void lengths() {
        for (int i = 1; i <= 12; i++) {
            int length = i;
            DryDock x = Check.dock("ship length " + i + " draught 1");
            Check.is("length " + i, length, () -> x.ship(0, 0));
            Check.is("length " + i + " comes", 1, () -> x.comes(length, 1, 0));
            Check.is("length " + i, length, () -> x.ship(1, 0));
        }
        Check.dockAt("ship length |0 draught 1");
        Check.dockAt("ship length |13 draught 1");
        Check.dockAt("ship length |999 draught 1");
        Check.dockAt("ship length |-1 draught 1");
        wrongShip(0, 1, 0);
        wrongShip(13, 1, 0);
        wrongShip(-1, 1, 0);
        for (int far : FAR) {
            wrongShip(far, 1, 0);
        }
    }

    /** "DRAUGHT 1 to 20". */
    private static void draughts() {
        for (int i = 1; i <= 20; i++) {
            int draught = i;
            DryDock x = Check.dock("ship length 1 draught " + i);
            Check.is("draught " + i, draught, () -> x.ship(0, 1));
            Check.is("draught " + i + " comes", 1, () -> x.comes(1, draught, 0));
            Check.is("draught " + i, draught, () -> x.ship(1, 1));
        }
        Check.dockAt("ship length 1 draught |0");
        Check.dockAt("ship length 1 draught |21");
        Check.dockAt("ship length 1 draught |999");
        wrongShip(1, 0, 0);
        wrongShip(1, 21, 0);
        wrongShip(1, -1, 0);
        for (int far : FAR) {
            wrongShip(1, far, 0);
        }
    }

    /** "WORK 0 to 99"; without work in a text it is 0. */
    private static void works() {
        for (int i = 0; i <= 99; i++) {
            int work = i;
            DryDock x = Check.dock("ship length 1 draught 1 work " + i);
            Check.is("work " + i, work, () -> x.ship(0, 2));
            Check.is("work " + i + " comes", 1, () -> x.comes(1, 1, work));
            Check.is("work " + i, work, () -> x.ship(1, 2));
        }
        Check.is("no work told", 0, () -> Check.dock("ship length 1 draught 1").ship(0, 2));
        Check.dockAt("ship length 1 draught 1 work |100");
        Check.dockAt("ship length 1 draught 1 work |999");
        Check.dockAt("ship length 1 draught 1 work |-1");
        wrongShip(1, 1, -1);
        wrongShip(1, 1, 100);
        for (int far : FAR) {
            wrongShip(1, 1, far);
        }
    }

    /** "it is HURT, WORK is 5 more (99 at most)". */
    private static void mostWorkByHurt() {
        int[][] cases = {{0, 5}, {1, 6}, {93, 98}, {94, 99}, {95, 99}, {98, 99}, {99, 99}};
        for (int[] c : cases) {
            DryDock x = Check.dock("ship length 1 draught 9 work " + c[0] + " at 0;tide 10 8");
            x.hours(1);
            Check.is("hurt with work " + c[0], c[1], () -> x.ship(0, 2));
            Check.is("it is hurt", 1, () -> x.ship(0, 5));
        }
    }

    /** "DOCKED: it lies at its PLACE and those behind it, LENGTH PLACES in all". */
    private static void lying() {
        for (int length = 1; length <= 12; length++) {
            for (int place = 0; place < 24; place++) {
                if (place + length <= 24) {
                    lyingAt(length, place);
                } else {
                    beyond(length, place);
                }
            }
        }
    }

    private static void lyingAt(int length, int place) {
        DryDock x = Check.dock("ship length " + length + " draught 1 at " + place);
        DryDock y = Check.dock("ship length " + length + " draught 1");
        Check.is("let in", 24 - length, () -> y.enter(0, place));
        Check.is("free places", 24 - length, () -> x.count(11));
        for (int i = 0; i < 24; i++) {
            int other = i;
            int ship = i >= place && i < place + length ? 0 : -1;
            Check.is("length " + length + " at " + place + ": ship on " + i, ship, () -> x.place(other, 1));
            Check.is("length " + length + " in at " + place + ": ship on " + i, ship, () -> y.place(other, 1));
        }
    }

    private static void beyond(int length, int place) {
        Check.dockAt("ship length " + length + " draught 1 at |" + place);
        Check.refused("length " + length + " at " + place, Check.STATE,
                () -> Check.dock("ship length " + length + " draught 1"), x -> x.enter(0, place));
    }

    /** "WAITING (at first), or DOCKED .. or GONE; HURT or not (not at first)". */
    private static void standing() {
        DryDock x = Check.dock("ship length 2 draught 3;ship length 2 draught 3 at 4");
        int[] stands = {0, 1, 0};
        int[] places = {-1, 4, -1};
        x.comes(1, 1, 1);
        for (int i = 0; i < 3; i++) {
            int ship = i;
            Check.is("stands " + i, stands[i], () -> x.ship(ship, 3));
            Check.is("place of " + i, places[i], () -> x.ship(ship, 4));
            Check.is("not hurt " + i, 0, () -> x.ship(ship, 5));
        }
        x.enter(0, 0);
        x.leave(1);
        Check.is("docked", 1, () -> x.ship(0, 3));
        Check.is("at 0", 0, () -> x.ship(0, 4));
        Check.is("gone", 2, () -> x.ship(1, 3));
        Check.is("nowhere", -1, () -> x.ship(1, 4));
        Check.is("waiting", 4, x::waiting);
        Check.is("docked", 1, x::docked);
        Check.is("gone", 2, x::gone);
    }

    /** "TIDE of each of twelve hours: 0 to 30". */
    private static void tides() {
        for (int hour = 0; hour < 12; hour++) {
            for (int n = 0; n <= 30; n++) {
                tideIs(hour, n);
            }
        }
        for (int n : new int[] {-1, 31, Integer.MIN_VALUE, Integer.MAX_VALUE}) {
            for (int hour : new int[] {0, 11}) {
                Check.refused("flow " + n, Check.ARGUMENT, DryDock::new, x -> x.flow(hour, n));
            }
        }
        for (int hour : new int[] {-1, 12, Integer.MIN_VALUE, Integer.MAX_VALUE}) {
            Check.refused("flow of hour " + hour, Check.INDEX, DryDock::new, x -> x.flow(hour, 5));
            Check.refused("wrong flow of hour " + hour, Check.INDEX, DryDock::new, x -> x.flow(hour, 31));
            Check.refused("tide of hour " + hour, Check.INDEX, DryDock::new, x -> x.tide(hour));
        }
        Check.dockAt("tide 0 30 |31");
        Check.dockAt("tide |31");
    }

    private static void tideIs(int hour, int n) {
        DryDock x = new DryDock();
        Check.is("flow, what it was", 10, () -> x.flow(hour, n));
        Check.is("flow again, what it was", n, () -> x.flow(hour, n));
        DryDock y = Check.dock("tide" + " 7".repeat(hour) + " " + n);
        for (int i = 0; i < 12; i++) {
            int other = i;
            Check.is("tide " + i + " behind flow", i == hour ? n : 10, () -> x.tide(other));
            Check.is("tide " + i + " by a text", i == hour ? n : i < hour ? 7 : 10, () -> y.tide(other));
        }
    }

    /** "TIDE NOW: that of HOUR modulo 12". */
    private static void tideNow() {
        for (int hour = 0; hour <= 999; hour += hour == 40 ? 940 : 1) {
            DryDock x = Check.dock("tide 1 4 7 10 13 16 19 22 25 28 30 0;hour " + hour + ";level 12");
            int now = x.tide(hour % 12);
            Check.is("leaks in hour " + hour, now > 12 ? 1 : 0, x::leaks);
            Check.is("even in hour " + hour, Math.abs(now - 12) <= 1, x::even);
            x.hours(1);
            Check.is("level an hour later", x.tide((hour + 1) % 12), () -> x.count(3));
        }
    }

    /** "LEVEL 0 to 40", in texts "level 0 to 40". */
    private static void levels() {
        for (int i = 0; i <= 40; i++) {
            int level = i;
            Check.is("level " + i, level, () -> Check.dock("level " + level).count(3));
        }
        Check.dockAt("level |41");
        Check.dockAt("level |999");
        Check.dockAt("level |-1");
    }

    private static void levelIs(int level, int leak, int pull, int want) {
        DryDock x = Check.dock("level " + level + ";shut;pumps 0;tide 0 0");
        Check.law(x, "leak " + leak + ";pull " + pull);
        x.hours(1);
        Check.is("level " + level + " and " + leak + " less " + pull, want, () -> x.count(3));
    }

    /** "LEVEL is LEAKS more and PULLS less .. (0 to 40": the bounds are of both together. */
    private static void levelsByHours() {
        levelIs(39, 1, 0, 40);
        levelIs(40, 0, 0, 40);
        levelIs(40, 1, 0, 40);
        levelIs(40, 40, 0, 40);
        levelIs(0, 40, 0, 40);
        levelIs(1, 0, 1, 0);
        levelIs(0, 0, 1, 0);
        levelIs(0, 0, 0, 0);
        levelIs(3, 0, 40, 0);
        levelIs(40, 5, 3, 40);
        levelIs(40, 5, 6, 39);
        levelIs(0, 3, 5, 0);
        levelIs(0, 6, 5, 1);
        levelIs(38, 40, 39, 39);
        levelIs(2, 39, 40, 1);
        DryDock all = Check.dock("level 40;shut;pumps 9;tide 0 0");
        Check.law(all, "pull 40" + ";pull 40".repeat(11));
        Check.is("the most that pulls", 489, all::pulls);
        all.hours(1);
        Check.is("not below 0", 0, () -> all.count(3));
        DryDock leaking = Check.dock("level 0;shut;pumps 0;tide 9 9");
        Check.law(leaking, "leak 40" + ";leak 40".repeat(11));
        Check.is("the most that leaks", 481, leaking::leaks);
        leaking.hours(1);
        Check.is("not above 40", 40, () -> leaking.count(3));
    }

    /** "PUMPS 0 to 9", "HANDS 0 to 9". */
    private static void pumpsAndHands() {
        for (int i = 0; i <= 9; i++) {
            int n = i;
            DryDock x = Check.dock("pumps " + n + ";hands " + n);
            Check.is("pumps " + n, n, () -> x.count(5));
            Check.is("hands " + n, n, () -> x.count(6));
            Check.is("pumps told, there were", n, () -> x.pumps(9 - n));
            Check.is("pumps told", 9 - n, () -> x.count(5));
            Check.is("hands told, there were", n, () -> x.hands(9 - n));
            Check.is("hands told", 9 - n, () -> x.count(6));
        }
        Check.dockAt("pumps |10");
        Check.dockAt("hands |10");
        Check.dockAt("pumps |999");
        Check.dockAt("hands |999");
        for (int n : new int[] {-1, 10, Integer.MIN_VALUE, Integer.MAX_VALUE}) {
            Check.refused("pumps " + n, Check.ARGUMENT, DryDock::new, x -> x.pumps(n));
            Check.refused("hands " + n, Check.ARGUMENT, DryDock::new, x -> x.hands(n));
        }
    }

    /** "SURGE 0 to 5": LEVEL of an OPEN dock is 0 to SURGE above the tide, and each of these comes. */
    private static void surges() {
        for (int surge = 0; surge <= 5; surge++) {
            DryDock x = Check.dock("surge " + surge);
            int told = surge;
            Check.is("surge " + surge, told, () -> x.count(7));
            int seen = 0;
            for (int i = 0; i < 200; i++) {
                x.hours(1);
                seen |= 1 << x.count(3) - 10;
            }
            int all = seen;
            Check.is("surges that come of " + surge, (1 << surge + 1) - 1, () -> all);
        }
        Check.dockAt("surge |6");
        Check.dockAt("surge |999");
    }

    /** "hour 0 to 999" (in texts). */
    private static void hourOfTexts() {
        for (int hour : new int[] {0, 1, 9, 10, 11, 12, 99, 100, 998, 999}) {
            Check.is("hour " + hour, hour, () -> Check.dock("hour " + hour).count(9));
        }
        Check.dockAt("hour |1000");
        Check.dockAt("hour |0999");
        Check.dockAt("hour |-1");
    }

    private static DryDock at9998() {
        DryDock x = Check.dock("hour 998;tide 0 1 2 3 4 5 6 7 8 9 10 11");
        for (int i = 0; i < 150; i++) {
            x.hours(60);
        }
        return x;
    }

    /** "HOUR 0 to 9999", "HOUR is 1 more (9999 at most; TIDE NOW is by that)". */
    private static void lastHour() {
        DryDock x = at9998();
        Check.is("hour", 9998, () -> x.count(9));
        Check.is("level", 9998 % 12, () -> x.count(3));
        x.hours(1);
        Check.is("the last hour", 9999, () -> x.count(9));
        Check.is("its tide", 3, () -> x.count(3));
        x.flow(3, 17);
        x.flow(4, 25);
        Check.is("ahead: the tide stays", 17, () -> x.ahead(1, false));
        Check.is("ahead: the tide stays", 17, () -> x.ahead(60, false));
        Check.is("trial: the tide stays", 17, () -> x.trial(2, false));
        Check.is("span: the tide stays", 17, () -> x.span(60, true));
        x.hours(1);
        Check.is("it stays the last hour", 9999, () -> x.count(9));
        Check.is("its tide", 17, () -> x.count(3));
        x.undo();
        Check.is("undone", 3, () -> x.count(3));
        x.hours(60);
        Check.is("it stays the last hour", 9999, () -> x.count(9));
        DryDock over = at9998();
        over.hours(60);
        Check.is("not beyond it", 9999, () -> over.count(9));
        Check.is("its tide", 3, () -> over.count(3));
        over.comes(1, 4, 0);
        Check.is("WHEN is of the hour HOUR and N", 1, () -> over.ship(0, 10));
        Check.law(over, "pull 5 if hour > 2 and hour < 4;leak 6 if tide > 2 and tide < 4");
        Check.is("hour of the law", 7, over::pulls);
        Check.is("tide of the law", 6, over::leaks);
        over.comes(1, 3, 0);
        over.enter(1, 0);
        Check.is("the log's hour", 9999, () -> over.log(0, 0));
        Check.is("the hour led", 9999, () -> over.led(1, true));
    }

    /** "PURSE 0 to 9999": eight ships bring 8 times 516 at most, so it never is as full. */
    private static void purses() {
        DryDock x = new DryDock();
        Check.law(x, "fee 40" + ";fee 40".repeat(11));
        for (int i = 0; i < 8; i++) {
            int ship = i;
            Check.is("purse ahead of ship " + i, 516 * ship, () -> x.count(8));
            x.comes(12, 1, 0);
            x.enter(ship, 12);
            Check.is("nothing yet", 516 * ship, () -> x.count(8));
            Check.is("fee", 516, () -> x.leave(ship));
        }
        Check.is("purse", 4128, () -> x.count(8));
        x.undo();
        Check.is("purse undone", 3612, () -> x.count(8));
        DryDock free = Check.dock("ship length 1 draught 1 at 0");
        Check.is("the least fee", 3, () -> free.leave(0));
        Check.is("purse", 3, () -> free.count(8));
    }

    /** "An object is used for at most 512 calls". */
    private static void manyCalls() {
        DryDock x = Check.dock("surge 5;tide 0 30");
        for (int i = 0; i < 505; i++) {
            x.hours(60);
        }
        Check.is("acts remembered", 12, () -> x.count(14));
        Check.is("the last hour", 9999, () -> x.count(9));
    }
}
