/** The promises, call by call: what is an act, what is refused and changes nothing, THE LOG, UNDONE, THE IMAGE. */
public final class EdgeCallsTest {
    /** Three ships (0 docked and afloat, 1 docked and sitting, 2 waiting, 3 waiting and too deep), something to undo. */
    private static DryDock busy() {
        DryDock x = Check.dock("ship length 3 draught 4 work 5 at 2;ship length 2 draught 15 work 6 at 10;"
                + "ship length 5 draught 10 work 7;ship length 5 draught 11;blocks 3 10;surge 2;hour 5");
        Check.law(x, "fee 9 if length > 2;pull 1");
        x.image();
        x.hours(1);
        x.block(20, true);
        Check.put(x, "level 12;shu");
        return x;
    }

    private static DryDock busyShut() {
        DryDock x = busy();
        x.gate(false);
        x.flow(6, 25);
        return x;
    }

    private interface Act {
        void on(DryDock x);
    }

    public static void main(String[] args) {
        surelyEven();
        gates();
        enters();
        leaves();
        comes();
        blocks();
        whats();
        counts();
        actsAreRemembered();
        asksAreNoActs();
        eachActUndone();
        twelveActs();
        hoursAreOne();
        forgotten();
        undoneTapeAndFault();
        seeds();
        logRows();
        logBounds();
        logOf40();
        logUndoneAndKept();
        led();
        images();
        imageOfAll();
        Check.end("EdgeCallsTest");
    }

    private static void surelyEven() {
        DryDock x = busy();
        Check.is("level is 10 to 12", true, () -> x.count(3) >= 10 && x.count(3) <= 12);
        Check.is("two acts", 2, () -> x.count(14));
    }

    /** gate: "whether that changed. IllegalStateException: it is shut and to be opened, and it is not EVEN". */
    private static void gates() {
        Check.refused("opened, not even", Check.STATE, EdgeCallsTest::busyShut, x -> x.gate(true));
        for (int level = 0; level <= 40; level += 20) {
            DryDock x = Check.dock("level " + level);
            Check.is("open already, even or not", false, () -> x.gate(true));
            Check.is("an act", 1, () -> x.count(14));
            Check.is("shut, even or not", true, () -> x.gate(false));
            Check.is("is shut", 0, () -> x.count(4));
            Check.is("shut already", false, () -> x.gate(false));
            Check.is("three acts", 3, () -> x.count(14));
            Check.is("not even", "throws." + Check.STATE, () -> x.gate(true));
            Check.is("three acts still", 3, () -> x.count(14));
        }
        DryDock x = new DryDock();
        x.gate(false);
        Check.is("opened", true, () -> x.gate(true));
        Check.is("is open", 1, () -> x.count(4));
    }

    /** enter: "THE GATE is shut, it is not WAITING, DRAUGHT is above LEVEL, or its PLACES are not all free and in the dock". */
    private static void enters() {
        Check.refused("shut", Check.STATE, EdgeCallsTest::busyShut, x -> x.enter(2, 15));
        Check.refused("docked", Check.STATE, EdgeCallsTest::busy, x -> x.enter(0, 15));
        Check.refused("docked, where it lies", Check.STATE, EdgeCallsTest::busy, x -> x.enter(0, 2));
        Check.Maker gone = () -> {
            DryDock x = busy();
            x.leave(0);
            return x;
        };
        Check.refused("gone", Check.STATE, gone, x -> x.enter(0, 2));
        Check.Maker low = () -> {
            DryDock x = busy();
            x.flow(7, 0);
            x.flow(8, 9);
            x.seed(1);
            x.hours(1);
            return x;
        };
        Check.refused("too deep", Check.STATE, low, x -> x.enter(2, 15));
        for (int place = 0; place < 24; place++) {
            boolean free = place >= 5 && place + 5 <= 10 || place >= 12 && place + 5 <= 24;
            int at = place;
            if (free) {
                DryDock x = busy();
                Check.is("let in at " + at, 14, () -> x.enter(2, at));
                Check.is("docked", 1, () -> x.ship(2, 3));
                Check.is("there", at, () -> x.ship(2, 4));
                Check.is("free", 14, () -> x.count(11));
            } else {
                Check.refused("not free, or not in the dock: " + at, Check.STATE, EdgeCallsTest::busy, x -> x.enter(2, at));
            }
        }
        Check.is("the gate need not be even", 23, () -> Check.dock("level 40;ship length 1 draught 20").enter(0, 0));
        DryDock full = Check.dock("ship length 12 draught 1 at 0;ship length 12 draught 1");
        Check.is("none free then", 0, () -> full.enter(1, 12));
        Check.refused("no ship comes first", Check.INDEX, EdgeCallsTest::busyShut, x -> x.enter(4, 0));
        Check.refused("no place comes first", Check.INDEX, EdgeCallsTest::busyShut, x -> x.enter(0, 24));
        Check.refused("no place comes first", Check.INDEX, EdgeCallsTest::busyShut, x -> x.enter(0, -1));
    }

    /** leave: "THE GATE is shut, it is not DOCKED, or DRAUGHT is above LEVEL". */
    private static void leaves() {
        Check.refused("shut", Check.STATE, EdgeCallsTest::busyShut, x -> x.leave(0));
        Check.refused("waiting", Check.STATE, EdgeCallsTest::busy, x -> x.leave(2));
        Check.refused("it sits", Check.STATE, EdgeCallsTest::busy, x -> x.leave(1));
        Check.refused("gone", Check.STATE, () -> {
            DryDock x = busy();
            x.leave(0);
            return x;
        }, x -> x.leave(0));
        Check.refused("no ship", Check.INDEX, EdgeCallsTest::busyShut, x -> x.leave(4));
        DryDock x = busy();
        Check.is("its fee", 18, () -> x.leave(0));
        Check.is("purse", 18, () -> x.count(8));
        Check.is("gone", 2, () -> x.ship(0, 3));
        Check.is("free", 22, () -> x.count(11));
        Check.is("its work stays", 5, () -> x.ship(0, 2));
        DryDock fees = Check.dock("ship length 1 draught 1 at 0;ship length 1 draught 1 at 1");
        Check.law(fees, "fee 7 if level > 9 and ship < 1");
        Check.is("fee of 0", 10, () -> fees.leave(0));
        Check.is("fee of 1", 3, () -> fees.leave(1));
        Check.is("both", 13, () -> fees.count(8));
    }

    /** comes: "IllegalArgumentException .. ; IllegalStateException: there are 8", the first one first. */
    private static void comes() {
        Check.Maker eight = () -> {
            DryDock x = busy();
            for (int i = 4; i < 8; i++) {
                x.comes(1, 1, 1);
            }
            return x;
        };
        Check.refused("a ninth", Check.STATE, eight, x -> x.comes(1, 1, 0));
        int[][] wrong = {{0, 1, 0}, {13, 1, 0}, {1, 0, 0}, {1, 21, 0}, {1, 1, -1}, {1, 1, 100}};
        for (int[] w : wrong) {
            Check.refused("a wrong ninth", Check.ARGUMENT, eight, x -> x.comes(w[0], w[1], w[2]));
            Check.refused("a wrong one", Check.ARGUMENT, EdgeCallsTest::busy, x -> x.comes(w[0], w[1], w[2]));
        }
        DryDock x = eight.make();
        x.leave(0);
        Check.is("one gone is still one of 8", "throws." + Check.STATE, () -> x.comes(1, 1, 0));
        x.undo();
        x.undo();
        Check.is("undone, there is room for one", 7, () -> x.comes(9, 8, 7));
        Check.is("its length", 9, () -> x.ship(7, 0));
        Check.is("its draught", 8, () -> x.ship(7, 1));
        Check.is("its work", 7, () -> x.ship(7, 2));
        Check.is("it waits", 0, () -> x.ship(7, 3));
        Check.is("nowhere", -1, () -> x.ship(7, 4));
    }

    /** block: "whether that changed". */
    private static void blocks() {
        for (int i = 0; i < 24; i++) {
            int place = i;
            DryDock x = new DryDock();
            Check.is("none to take away", false, () -> x.block(place, false));
            Check.is("set", true, () -> x.block(place, true));
            Check.is("set already", false, () -> x.block(place, true));
            Check.is("one", 1, () -> x.count(10));
            Check.is("taken away", true, () -> x.block(place, false));
            Check.is("none", 0, () -> x.count(10));
            Check.is("four acts", 4, () -> x.count(14));
        }
        DryDock all = new DryDock();
        for (int i = 0; i < 24; i++) {
            all.block(i, true);
        }
        Check.is("at all places", 24, () -> all.count(10));
        DryDock under = Check.dock("ship length 3 draught 1 at 4");
        Check.is("under a ship, too", true, () -> under.block(5, true));
    }

    /** "NoSuchElementException: another what", behind a ship or a place that is none. */
    private static void whats() {
        for (int what : new int[] {-1, 13, Integer.MIN_VALUE, Integer.MAX_VALUE}) {
            Check.refused("ship what " + what, Check.ELEMENT, EdgeCallsTest::busy, x -> x.ship(0, what));
            Check.refused("no ship, what " + what, Check.INDEX, EdgeCallsTest::busy, x -> x.ship(4, what));
        }
        for (int what : new int[] {-1, 2, Integer.MIN_VALUE, Integer.MAX_VALUE}) {
            Check.refused("place what " + what, Check.ELEMENT, EdgeCallsTest::busy, x -> x.place(23, what));
            Check.refused("no place, what " + what, Check.INDEX, EdgeCallsTest::busy, x -> x.place(24, what));
        }
        for (int what : new int[] {-1, 5, Integer.MIN_VALUE, Integer.MAX_VALUE}) {
            Check.refused("log what " + what, Check.ELEMENT, EdgeCallsTest::busy, x -> x.log(0, what));
            Check.refused("log of none, what " + what, Check.ELEMENT, DryDock::new, x -> x.log(-1, what));
            Check.refused("log of none, what " + what, Check.ELEMENT, DryDock::new, x -> x.log(60, what));
        }
    }

    /** count: "NONE for another what". */
    private static void counts() {
        DryDock x = busy();
        for (int what : new int[] {-1, 15, 16, Integer.MIN_VALUE, Integer.MAX_VALUE}) {
            Check.is("count " + what, -1, () -> x.count(what));
        }
        int[] due = {4, 1, 2, x.count(3), 1, 2, 3, 2, 0, 6, 3, 19, 18, 0, 2};
        for (int i = 0; i < due.length; i++) {
            int what = i;
            Check.is("count " + i, due[i], () -> x.count(what));
        }
        DryDock full = Check.dock("ship length 12 draught 1 work 99 at 0;ship length 12 draught 1 work 99 at 12"
                + ";ship length 1 draught 1 work 99".repeat(6));
        Check.is("WORK of all together, the most", 792, () -> full.count(12));
        Check.is("no free places", 0, () -> full.count(11));
        full.leave(0);
        Check.is("GONE ones, too", 792, () -> full.count(12));
        Check.is("ships, GONE ones, too", 8, () -> full.count(0));
    }

    private static Act[] acts() {
        return new Act[] {x -> x.hours(1), x -> x.hours(60), x -> x.gate(true), x -> x.gate(false), x -> x.enter(2, 15),
            x -> x.leave(0), x -> x.comes(12, 20, 99), x -> x.block(0, true), x -> x.block(3, false), x -> x.block(3, true),
            x -> x.block(0, false), x -> x.pumps(9), x -> x.pumps(2), x -> x.hands(0), x -> x.hands(3), x -> x.flow(6, 30),
            x -> x.flow(6, 10)};
    }

    /** "ACTS (what is so already, too)". */
    private static void actsAreRemembered() {
        Act[] acts = acts();
        for (int i = 0; i < acts.length; i++) {
            Act act = acts[i];
            Check.is("act " + i, 3, () -> {
                DryDock x = busy();
                act.on(x);
                return x.count(14);
            });
        }
    }

    /** All that is asked, the tape, SEED and THE IMAGE are no acts. */
    private static void asksAreNoActs() {
        DryDock x = busy();
        Act[] asks = {y -> y.fault(), y -> y.ship(0, 6), y -> y.place(0, 0), y -> y.tide(0), y -> y.pulls(), y -> y.leaks(),
            y -> y.even(), y -> y.room(), y -> y.load(), y -> y.which(), y -> y.dry(), y -> y.ready(), y -> y.ease(),
            y -> y.cost(), y -> y.first(), y -> y.knocks(), y -> y.knock(), y -> y.beds(0), y -> y.pairs(0), y -> y.rests(0),
            y -> y.odds(5, 2), y -> y.most(0), y -> y.waiting(), y -> y.docked(), y -> y.gone(), y -> y.hurt(),
            y -> y.twins(), y -> y.water(true), y -> y.ahead(60, true), y -> y.trial(60, true), y -> y.span(60, true),
            y -> y.led(0, true), y -> y.log(0, 0), y -> y.count(0)};
        String before = Check.all(x);
        for (int i = 0; i < asks.length; i++) {
            DryDock asked = busy();
            asks[i].on(asked);
            Check.is("ask " + i, before, () -> Check.all(asked));
            Check.is("ask " + i + " is no act", 2, () -> asked.count(14));
        }
        x.end(0);
        x.feed(0, 0, 0, 0, 0);
        x.end(0);
        x.goes(true);
        x.ask();
        x.lies();
        x.likely();
        x.sound();
        x.seed(x.seed(4));
        x.image();
        Check.is("no acts", 2, () -> x.count(14));
        Check.is("nothing changed", before, () -> Check.all(x));
    }

    /** "UNDONE: the latest ACT not undone yet .. all is as ahead of it". */
    private static void eachActUndone() {
        Act[] acts = acts();
        for (int i = 0; i < acts.length; i++) {
            DryDock x = busy();
            String before = Check.all(x);
            acts[i].on(x);
            Check.is("undone " + i, true, x::undo);
            Check.is("as ahead of act " + i, before, () -> Check.all(x));
            Check.is("acts left behind " + i, 2, () -> x.count(14));
        }
        DryDock x = busyShut();
        String before = Check.all(x);
        Check.is("refused", "throws." + Check.STATE, () -> x.gate(true));
        x.hands(7);
        x.undo();
        Check.is("a refused act is none to undo", before, () -> Check.all(x));
    }

    /** So many acts, behind each of which it is otherwise, on a new object. */
    private static DryDock acted(int acts) {
        DryDock x = new DryDock();
        for (int i = 0; i < acts; i++) {
            x.flow(i % 12, (i + 1) % 31);
        }
        return x;
    }

    private static void undoneSo(int acts, int undone, int left) {
        DryDock x = acted(acts);
        for (int i = 0; i < undone; i++) {
            Check.is("undone", true, x::undo);
        }
        Check.is(undone + " of " + acts + " undone", Check.all(acted(acts - undone)), () -> Check.all(x));
        Check.is("left", left, () -> x.count(14));
    }

    /** "(12 are remembered": with 11, 12 and 13 acts. */
    private static void twelveActs() {
        for (int n = 0; n <= 30; n++) {
            int remembered = Math.min(n, 12);
            for (int undone = 0; undone <= remembered; undone++) {
                undoneSo(n, undone, remembered - undone);
            }
            DryDock x = acted(n);
            for (int i = 0; i < remembered; i++) {
                x.undo();
            }
            Check.is("no more of " + n, false, x::undo);
            Check.is("none", 0, () -> x.count(14));
            Check.is("nothing happened", Check.all(acted(n - remembered)), () -> Check.all(x));
        }
        DryDock turns = new DryDock();
        for (int i = 0; i < 20; i++) {
            turns.pumps(i % 10);
            turns.pumps(9);
            turns.undo();
        }
        Check.is("the 13th made one forgotten, and was undone", 11, () -> turns.count(14));
        Check.is("the latest one", 9, () -> turns.count(5));
        for (int i = 18; i >= 8; i--) {
            int due = i % 10;
            turns.undo();
            Check.is("the one before", due, () -> turns.count(5));
        }
        Check.is("no more", false, turns::undo);
    }

    /** "HOURS of one call are one". */
    private static void hoursAreOne() {
        DryDock x = busy();
        String before = Check.all(x);
        x.hours(60);
        Check.is("one act", 3, () -> x.count(14));
        x.undo();
        Check.is("all of them undone", before, () -> Check.all(x));
        for (int i = 0; i < 10; i++) {
            x.hours(1);
        }
        Check.is("ten calls are ten", 12, () -> x.count(14));
        x.undo();
        Check.is("one hour undone", 15, () -> x.count(9));
    }

    /** "A text, going back: none are remembered". */
    private static void forgotten() {
        DryDock x = busy();
        x.end(0);
        x.dock();
        Check.is("a text of the dock", 0, () -> x.count(14));
        Check.is("none to undo", false, x::undo);
        x.pumps(1);
        x.law();
        Check.is("a law", 0, () -> x.count(14));
        Check.is("none to undo", false, x::undo);
        x.pumps(1);
        x.back();
        Check.is("going back", 0, () -> x.count(14));
        Check.is("none to undo", false, x::undo);
        x.pumps(1);
        x.image();
        Check.is("keeping an image", 1, () -> x.count(14));
        Check.is("still there to undo", true, x::undo);
        DryDock none = new DryDock();
        none.pumps(4);
        Check.is("back without an image", false, none::back);
        Check.is("an act is remembered", 1, () -> none.count(14));
        Check.put(none, "level 41");
        Check.is("a wrong text", "throws." + Check.ARGUMENT, none::dock);
        Check.is("an act is remembered", 1, () -> none.count(14));
        Check.put(none, "pull 41");
        Check.is("a wrong law", "throws." + Check.ARGUMENT, none::law);
        Check.is("an act is remembered", 1, () -> none.count(14));
        none.undo();
        Check.is("and undone", 2, () -> none.count(5));
    }

    /** "(but for the TAPE, fault(), THE IMAGE)". */
    private static void undoneTapeAndFault() {
        DryDock x = new DryDock();
        x.pumps(5);
        x.image();
        x.pumps(6);
        Check.put(x, "level 41");
        Check.answer(x::dock);
        Check.put(x, "level 7");
        x.undo();
        Check.is("fault stays", 6, x::fault);
        x.undo();
        Check.is("pumps", 2, () -> x.count(5));
        Check.is("the tape stays", 1, x::dock);
        Check.is("level", 7, () -> x.count(3));
        Check.is("the image stays", true, x::back);
        Check.is("pumps of it", 5, () -> x.count(5));
        Check.is("level of it", 10, () -> x.count(3));
        Check.is("texts of it", 0, () -> x.count(1));
        DryDock y = new DryDock();
        y.pumps(5);
        y.undo();
        Check.is("an image is not made by that", false, y::back);
    }

    /** seed: "what it was"; it is no act, and is as ahead of an act that is undone. */
    private static void seeds() {
        DryDock x = new DryDock();
        int[] seeds = {0, -1, Integer.MIN_VALUE, Integer.MAX_VALUE, 1};
        int last = 1;
        for (int seed : seeds) {
            int was = last;
            Check.is("seed was", was, () -> x.seed(seed));
            last = seed;
        }
        Check.is("no acts", 0, () -> x.count(14));
        x.pumps(3);
        x.seed(50);
        x.pumps(4);
        x.seed(60);
        x.undo();
        Check.is("as ahead of the act", 50, () -> x.seed(70));
        x.undo();
        Check.is("as ahead of the act", 1, () -> x.seed(1));
        x.seed(8);
        x.image();
        x.seed(9);
        x.back();
        Check.is("as in the image", 8, () -> x.seed(1));
    }

    private static void row(DryDock x, int ago, int... due) {
        for (int i = 0; i < 5; i++) {
            int what = i;
            Check.is("log " + ago + ", " + i, due[i], () -> x.log(ago, what));
        }
    }

    /** THE LOG: "HOUR, the SHIP, 0 to 3, its PLACE (.. the new one, .. the one where it lay), LEVEL". */
    private static void logRows() {
        DryDock x = Check.dock("ship length 1 draught 5;ship length 1 draught 5 at 9;hour 30;tide 10 10 10 10 10 10 10 4 2 8;hands 6");
        row(x, 0, -1, -1, -1, -1, -1);
        x.leave(1);
        row(x, 0, 30, 1, 1, 9, 10);
        x.enter(0, 23);
        row(x, 0, 30, 0, 0, 23, 10);
        row(x, 1, 30, 1, 1, 9, 10);
        x.hours(1);
        row(x, 0, 31, 0, 2, 23, 4);
        x.hours(1);
        row(x, 0, 32, 0, 3, 23, 2);
        x.hours(1);
        x.leave(0);
        row(x, 0, 33, 0, 1, 23, 8);
        Check.is("rows", 5, () -> x.count(13));
        row(x, 4, 30, 1, 1, 9, 10);
        row(x, 5, -1, -1, -1, -1, -1);
    }

    /** log: "so many ago (0 the latest) .. NONE without". */
    private static void logBounds() {
        DryDock x = Check.dock("ship length 1 draught 1");
        x.enter(0, 5);
        for (int what = 0; what < 5; what++) {
            int one = what;
            for (int ago : new int[] {-1, 1, 59, 60, 61, Integer.MIN_VALUE, Integer.MAX_VALUE}) {
                Check.is("log " + ago + ", " + what, -1, () -> x.log(ago, one));
                Check.is("new log " + ago + ", " + what, -1, () -> new DryDock().log(ago, one));
            }
            Check.is("new log 0, " + what, -1, () -> new DryDock().log(0, one));
        }
    }

    /** In, done, hurt, done, out: 40 rows of eight ships are the most that can come about. */
    private static DryDock with40() {
        DryDock x = Check.dock("hands 9;tide 10 0;blocks 0 3 6 9 12 15 18 21");
        for (int i = 0; i < 8; i++) {
            x.comes(1, 1, 1);
            x.enter(i, 3 * i);
        }
        x.hours(1);
        for (int i = 0; i < 8; i++) {
            x.block(3 * i, false);
        }
        x.hours(60);
        x.hours(11);
        for (int i = 0; i < 8; i++) {
            x.leave(i);
        }
        return x;
    }

    private static void logOf40() {
        DryDock x = with40();
        Check.is("rows", 40, () -> x.count(13));
        int[] kinds = {0, 3, 2, 3, 1};
        int[] hours = {0, 1, 13, 0, 72};
        for (int i = 0; i < 40; i++) {
            int ago = 39 - i;
            int ship = i % 8;
            Check.is("ship of row " + i, ship, () -> x.log(ago, 1));
            Check.is("kind of row " + i, kinds[i / 8], () -> x.log(ago, 2));
            Check.is("place of row " + i, 3 * ship, () -> x.log(ago, 3));
            Check.is("level of row " + i, i / 8 % 4 == 0 ? 10 : 0, () -> x.log(ago, 4));
            if (i / 8 != 3) {
                Check.is("hour of row " + i, hours[i / 8], () -> x.log(ago, 0));
            }
        }
        Check.is("no row 40", -1, () -> x.log(40, 0));
        for (int i = 0; i < 8; i++) {
            int ship = i;
            Check.is("rows of " + i, 5, () -> x.led(ship, false));
            Check.is("latest of " + i, 72, () -> x.led(ship, true));
        }
    }

    private static DryDock fiveLetIn() {
        DryDock x = new DryDock();
        for (int i = 0; i < 5; i++) {
            x.comes(1, 1, 0);
        }
        for (int i = 0; i < 5; i++) {
            x.enter(i, i);
        }
        return x;
    }

    /** All rows are as they were, when an act is undone or one goes back, though others came in between. */
    private static void logUndoneAndKept() {
        DryDock x = fiveLetIn();
        x.image();
        String kept = Check.all(fiveLetIn());
        for (int i = 0; i < 5; i++) {
            x.undo();
        }
        Check.is("no rows", 0, () -> x.count(13));
        row(x, 0, -1, -1, -1, -1, -1);
        x.hours(7);
        for (int i = 4; i >= 0; i--) {
            x.enter(i, 20 - i);
        }
        for (int i = 0; i < 5; i++) {
            row(x, i, 7, i, 0, 20 - i, 10);
        }
        x.back();
        Check.is("as in the image", kept, () -> Check.all(x));
        for (int i = 0; i < 5; i++) {
            row(x, i, 0, 4 - i, 0, 4 - i, 10);
        }
        x.leave(2);
        Check.is("six rows", 6, () -> x.count(13));
        x.undo();
        Check.is("as in the image", kept, () -> Check.all(x));
        DryDock full = with40();
        full.image();
        String all = Check.all(with40());
        for (int i = 0; i < 8; i++) {
            full.undo();
        }
        Check.is("32 rows", 32, () -> full.count(13));
        full.leave(5);
        full.leave(1);
        Check.is("34 rows", 34, () -> full.count(13));
        Check.is("latest", 1, () -> full.log(0, 1));
        full.back();
        Check.is("as in the image", all, () -> Check.all(full));
    }

    /** LED: "how many rows of THE LOG are of a SHIP; the HOUR of the latest (none)". */
    private static void led() {
        DryDock x = Check.dock("ship length 1 draught 1;ship length 1 draught 1;hour 3");
        Check.is("none yet", 0, () -> x.led(0, false));
        Check.is("none yet", -1, () -> x.led(0, true));
        x.enter(0, 0);
        Check.is("one", 1, () -> x.led(0, false));
        Check.is("hour", 3, () -> x.led(0, true));
        x.hours(4);
        x.enter(1, 1);
        Check.is("hour of its own latest", 3, () -> x.led(0, true));
        Check.is("hour of the other", 7, () -> x.led(1, true));
        x.leave(0);
        Check.is("two", 2, () -> x.led(0, false));
        Check.is("hour", 7, () -> x.led(0, true));
        Check.is("one of the other", 1, () -> x.led(1, false));
        DryDock zero = Check.dock("ship length 1 draught 1");
        zero.enter(0, 0);
        Check.is("hour 0 is not none", 0, () -> zero.led(0, true));
    }

    /** back: "true; false, and nothing happens, if none was kept"; "THE IMAGE (one)". */
    private static void images() {
        DryDock x = busy();
        DryDock y = Check.dock("level 7");
        y.pumps(5);
        String before = Check.all(y);
        Check.is("none was kept", false, y::back);
        Check.is("nothing happens", before, () -> Check.all(y));
        Check.is("nothing is forgotten", 1, () -> y.count(14));
        Check.is("kept", true, x::back);
        Check.is("acts of before", 0, () -> x.count(14));
        Check.is("and again", true, x::back);
        x.pumps(8);
        x.image();
        x.pumps(9);
        x.back();
        Check.is("the latest image alone", 8, () -> x.count(5));
        x.pumps(7);
        x.back();
        Check.is("however often", 8, () -> x.count(5));
    }

    /** "THE IMAGE of all": texts, THE LAW, SEED, THE LOG, ships, places, the basin; not the TAPE and fault(). */
    private static void imageOfAll() {
        DryDock x = busy();
        x.enter(2, 15);
        x.seed(-7);
        x.end(0);
        x.image();
        String kept = Check.all(x);
        Check.put(x, "ship length 1 draught 1 at 0;tide 1 2 3;blocks 9;level 30;shut;pumps 9;hands 9;surge 5;hour 700");
        x.dock();
        Check.law(x, "fee 1;pull 2;leak 3;fee 4");
        x.comes(3, 3, 3);
        x.hours(60);
        x.block(10, false);
        Check.put(x, "leak 41");
        Check.answer(x::law);
        Check.put(x, "hour 77");
        Check.is("back", true, x::back);
        Check.is("all is as it was", kept, () -> Check.all(x));
        Check.is("but for fault", 5, x::fault);
        Check.is("but for the tape", 2, x::dock);
        Check.is("which was read now", 77, () -> x.count(9));
        DryDock lawless = new DryDock();
        lawless.image();
        Check.law(lawless, "pull 7");
        lawless.back();
        Check.is("without a law", -1, () -> lawless.count(2));
        Check.is("pulls", 2, lawless::pulls);
        DryDock empty = new DryDock();
        empty.law();
        empty.image();
        Check.law(empty, "pull 7");
        empty.back();
        Check.is("a law without lines", 0, () -> empty.count(2));
    }
}
