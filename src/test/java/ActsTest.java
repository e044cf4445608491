/** Promises 10 to 18, 51 to 57: acts, the log, acts undone, the image, counts. */
public final class ActsTest {
    public static void main(String[] args) {
        gates();
        enters();
        leaves();
        comings();
        tellings();
        logs();
        fullLog();
        undone();
        undoneAll();
        images();
        purse();
        Check.end("ActsTest");
    }

    private static void gates() {
        DryDock x = Check.dock("level 12");
        Check.is("open already, uneven", false, () -> x.gate(true));
        Check.is("that is an act", 1, () -> x.count(14));
        Check.is("shut", true, () -> x.gate(false));
        Check.is("is shut", 0, () -> x.count(4));
        Check.is("shut already", false, () -> x.gate(false));
        Check.is("acts", 3, () -> x.count(14));
        Check.is("uneven", "throws.IllegalStateException", () -> x.gate(true));
        Check.is("still shut", 0, () -> x.count(4));
        Check.is("acts", 3, () -> x.count(14));
        x.flow(0, 11);
        Check.is("even by 1 less", true, x::even);
        Check.is("opened", true, () -> x.gate(true));
        Check.is("is open", 1, () -> x.count(4));
        x.flow(0, 13);
        Check.is("even by 1 more", true, x::even);
        x.flow(0, 14);
        Check.is("not even", false, x::even);
    }

    private static void enters() {
        DryDock x = Check.dock("ship length 4 draught 10;ship length 3 draught 11;ship length 2 draught 1 at 6;"
                + "ship length 3 draught 5");
        Check.is("no ship", "throws.IndexOutOfBoundsException", () -> x.enter(4, 0));
        Check.is("no ship", "throws.IndexOutOfBoundsException", () -> x.enter(-1, 0));
        Check.is("no place", "throws.IndexOutOfBoundsException", () -> x.enter(0, -1));
        Check.is("no place", "throws.IndexOutOfBoundsException", () -> x.enter(1, 24));
        Check.is("not in the dock", "throws.IllegalStateException", () -> x.enter(0, 21));
        Check.is("not free", "throws.IllegalStateException", () -> x.enter(0, 3));
        Check.is("not free", "throws.IllegalStateException", () -> x.enter(0, 7));
        Check.is("too deep", "throws.IllegalStateException", () -> x.enter(1, 0));
        Check.is("lies already", "throws.IllegalStateException", () -> x.enter(2, 10));
        Check.is("nothing is an act", 0, () -> x.count(14));
        Check.is("let in", 18, () -> x.enter(0, 20));
        Check.is("at its place", 20, () -> x.ship(0, 4));
        Check.is("docked", 1 + 4, x::docked);
        Check.is("just ahead", 15, () -> x.enter(3, 3));
        x.leave(0);
        Check.is("gone", "throws.IllegalStateException", () -> x.enter(0, 20));
        DryDock y = Check.dock("ship length 1 draught 1;shut");
        Check.is("gate shut", "throws.IllegalStateException", () -> y.enter(0, 0));
    }

    private static void leaves() {
        DryDock x = Check.dock("ship length 4 draught 10 at 0;ship length 3 draught 11 at 4;ship length 2 draught 1");
        Check.law(x, "fee 5 if length > 3;fee 7");
        Check.is("no ship", "throws.IndexOutOfBoundsException", () -> x.leave(3));
        Check.is("no ship", "throws.IndexOutOfBoundsException", () -> x.leave(-1));
        Check.is("sits", "throws.IllegalStateException", () -> x.leave(1));
        Check.is("waits", "throws.IllegalStateException", () -> x.leave(2));
        x.gate(false);
        Check.is("gate shut", "throws.IllegalStateException", () -> x.leave(0));
        x.gate(true);
        int acts = x.count(14);
        Check.is("let out", 24, () -> x.leave(0));
        Check.is("that is an act", acts + 1, () -> x.count(14));
        Check.is("purse", 24, () -> x.count(8));
        Check.is("gone", 1, x::gone);
        Check.is("free places", 21, () -> x.count(11));
        Check.is("gone already", "throws.IllegalStateException", () -> x.leave(0));
    }

    private static void comings() {
        DryDock x = new DryDock();
        int[][] wrong = {{0, 1, 0}, {13, 1, 0}, {1, 0, 0}, {1, 21, 0}, {1, 1, -1}, {1, 1, 100}};
        for (int[] w : wrong) {
            Check.is("no such ship", "throws.IllegalArgumentException", () -> x.comes(w[0], w[1], w[2]));
        }
        Check.is("the least", 0, () -> x.comes(1, 1, 0));
        Check.is("the most", 1, () -> x.comes(12, 20, 99));
        Check.is("waiting", 3, x::waiting);
        Check.is("work", 99, () -> x.count(12));
        for (int i = 2; i < 8; i++) {
            Check.is("one more", i, () -> x.comes(2, 3, 4));
        }
        Check.is("there are 8", "throws.IllegalStateException", () -> x.comes(2, 3, 4));
        Check.is("wrong is told first", "throws.IllegalArgumentException", () -> x.comes(2, 3, 100));
        Check.is("acts", 8, () -> x.count(14));
    }

    private static void tellings() {
        DryDock x = new DryDock();
        Check.is("pumps", 2, () -> x.pumps(9));
        Check.is("pumps", 9, () -> x.pumps(9));
        Check.is("pumps", 9, () -> x.count(5));
        Check.is("pumps 10", "throws.IllegalArgumentException", () -> x.pumps(10));
        Check.is("pumps -1", "throws.IllegalArgumentException", () -> x.pumps(-1));
        Check.is("hands", 3, () -> x.hands(0));
        Check.is("hands", 0, () -> x.count(6));
        Check.is("hands 10", "throws.IllegalArgumentException", () -> x.hands(10));
        Check.is("hands -1", "throws.IllegalArgumentException", () -> x.hands(-1));
        Check.is("flow", 10, () -> x.flow(11, 30));
        Check.is("flow", 30, () -> x.tide(11));
        Check.is("flow hour 12", "throws.IndexOutOfBoundsException", () -> x.flow(12, 31));
        Check.is("flow hour -1", "throws.IndexOutOfBoundsException", () -> x.flow(-1, 0));
        Check.is("flow 31", "throws.IllegalArgumentException", () -> x.flow(0, 31));
        Check.is("flow -1", "throws.IllegalArgumentException", () -> x.flow(0, -1));
        Check.is("block", true, () -> x.block(23, true));
        Check.is("block again", false, () -> x.block(23, true));
        Check.is("blocks", 1, () -> x.count(10));
        Check.is("taken away", true, () -> x.block(23, false));
        Check.is("taken away again", false, () -> x.block(23, false));
        Check.is("no place 24", "throws.IndexOutOfBoundsException", () -> x.block(24, true));
        Check.is("no place -1", "throws.IndexOutOfBoundsException", () -> x.block(-1, false));
        Check.is("what is so already is an act, too", 8, () -> x.count(14));
    }

    private static void row(DryDock x, int ago, int... want) {
        for (int i = 0; i < 5; i++) {
            int what = i;
            Check.is("log " + ago + " what " + i, want[i], () -> x.log(ago, what));
        }
    }

    private static void logs() {
        DryDock x = Check.dock("ship length 3 draught 9;ship length 2 draught 5;tide 10 1 10;hands 9");
        Check.is("a text lets nobody in", 0, () -> x.count(13));
        x.enter(1, 20);
        x.enter(0, 4);
        row(x, 0, 0, 0, 0, 4, 10);
        row(x, 1, 0, 1, 0, 20, 10);
        row(x, 2, -1, -1, -1, -1, -1);
        row(x, -1, -1, -1, -1, -1, -1);
        Check.is("both are hurt, then both are done", 9, () -> x.hours(1));
        Check.is("work left", 1, () -> x.count(12));
        row(x, 0, 1, 0, 3, 4, 1);
        row(x, 1, 1, 1, 2, 20, 1);
        row(x, 2, 1, 0, 2, 4, 1);
        x.hours(1);
        Check.is("let out", 9, () -> x.leave(0));
        row(x, 0, 2, 0, 1, 4, 10);
        Check.is("rows", 6, () -> x.count(13));
        Check.is("rows of 0", 4, () -> x.led(0, false));
        Check.is("rows of 1", 2, () -> x.led(1, false));
        Check.is("latest of 0", 2, () -> x.led(0, true));
        Check.is("latest of 1", 1, () -> x.led(1, true));
        Check.is("led: no ship", "throws.IndexOutOfBoundsException", () -> x.led(2, true));
        Check.is("led: no ship", "throws.IndexOutOfBoundsException", () -> x.led(-1, false));
        Check.is("log: no what", "throws.NoSuchElementException", () -> x.log(99, 5));
        Check.is("log: no what", "throws.NoSuchElementException", () -> x.log(0, -1));
        x.comes(1, 1, 1);
        Check.is("no rows", 0, () -> x.led(2, false));
        Check.is("no latest", -1, () -> x.led(2, true));
    }

    /** Five rows of a ship are the most: let in, done, hurt, done again, let out. */
    private static void fullLog() {
        DryDock x = Check.dock("hands 9;tide 10 0;blocks 0 2 4 6 8 10 12 14");
        for (int i = 0; i < 8; i++) {
            x.comes(1, 1, 1);
            x.enter(i, 2 * i);
        }
        x.hours(1);
        for (int i = 0; i < 8; i++) {
            x.block(2 * i, false);
        }
        for (int i = 0; i < 5; i++) {
            x.hours(12);
        }
        x.hours(11);
        for (int i = 7; i >= 0; i--) {
            x.leave(i);
        }
        Check.is("rows", 40, () -> x.count(13));
        int[] kinds = {0, 3, 2, 3, 1};
        for (int i = 0; i < 40; i++) {
            int ago = 39 - i;
            Check.is("kind of row " + i, kinds[i / 8], () -> x.log(ago, 2));
            Check.is("ship of row " + i, i < 32 ? i % 8 : 39 - i, () -> x.log(ago, 1));
        }
        Check.is("none ahead", -1, () -> x.log(40, 1));
        Check.is("five of each", 5, () -> x.led(3, false));
    }

    /** So many acts, each unlike all others, on a new object. */
    private static DryDock acted(int acts) {
        DryDock x = new DryDock();
        for (int i = 0; i < acts; i++) {
            x.flow(i % 12, 11 + i);
        }
        return x;
    }

    private static void undone() {
        for (int undone = 1; undone <= 12; undone++) {
            DryDock x = acted(15);
            for (int i = 0; i < undone; i++) {
                Check.is("undo", true, x::undo);
            }
            int left = 15 - undone;
            Check.is("as behind act " + left, Check.all(acted(left)), () -> Check.all(x));
        }
        DryDock x = acted(15);
        Check.is("12 are remembered", 12, () -> x.count(14));
        for (int i = 0; i < 12; i++) {
            x.undo();
        }
        Check.is("no more", false, x::undo);
        Check.is("none", 0, () -> x.count(14));
        x.flow(5, 5);
        Check.is("one again", 1, () -> x.count(14));
    }

    private static void undoneAll() {
        DryDock x = Check.dock("ship length 3 draught 9 work 8 at 1;ship length 2 draught 4;tide 10 1 10 4;surge 3;hands 4");
        String before = Check.all(x);
        x.hours(7);
        x.seed(99);
        Check.put(x, "level 99");
        Check.is("wrong text", "throws.IllegalArgumentException", x::dock);
        x.feed(0, 0, 0, 0, 0);
        Check.is("hours of one call are one", true, x::undo);
        Check.is("all is as ahead, SEED too", before, () -> Check.all(x));
        Check.is("but for fault", 6, x::fault);
        Check.is("but for the tape", true, () -> x.end(20));
        x.enter(1, 9);
        x.leave(0);
        x.gate(false);
        x.undo();
        x.undo();
        x.undo();
        Check.is("in, out, gate", before, () -> Check.all(x));
        Check.is("seed is no act", 0, () -> x.count(14));
        Check.is("seed", 1, () -> x.seed(-5));
        Check.is("seed", -5, () -> x.seed(1));
        Check.is("seed is no act", false, x::undo);
    }

    private static void images() {
        DryDock x = Check.dock("ship length 3 draught 9 work 8 at 1;surge 3");
        Check.law(x, "pull 3;fee 9");
        x.hours(3);
        x.seed(77);
        x.image();
        Check.is("an image is no act", 1, () -> x.count(14));
        String before = Check.all(x);
        Check.law(x, "pull 4");
        Check.put(x, "ship length 1 draught 1;surge 0;blocks 3;pumps 7;hour 99");
        x.dock();
        x.hours(9);
        x.leave(0);
        Check.put(x, "pull 41");
        Check.is("wrong law", "throws.IllegalArgumentException", x::law);
        x.feed(0, 0, 0, 0, 0);
        Check.is("back", true, x::back);
        Check.is("all is as it was", before, () -> Check.all(x));
        Check.is("but for fault", 5, x::fault);
        Check.is("but for the tape", true, () -> x.end(20));
        Check.is("none are remembered", 0, () -> x.count(14));
        Check.is("texts", 1, () -> x.count(1));
        Check.is("law", 1 + 1, () -> x.count(2));
        x.pumps(1);
        Check.is("back again", true, x::back);
        Check.is("all is as it was", before, () -> Check.all(x));
        x.pumps(6);
        x.image();
        x.pumps(3);
        x.undo();
        x.undo();
        Check.is("pumps", 2, () -> x.count(5));
        Check.is("the image stays", true, x::back);
        Check.is("one image, the latest", 6, () -> x.count(5));
        DryDock w = Check.dock("ship length 1 draught 1;ship length 2 draught 2");
        w.enter(0, 3);
        w.image();
        w.undo();
        w.enter(1, 5);
        Check.is("the log after an act undone", 1, () -> w.log(0, 1));
        w.back();
        Check.is("the log of the image", 0, () -> w.log(0, 1));
        Check.is("the log of the image", 3, () -> w.log(0, 3));
        w.enter(1, 7);
        w.undo();
        w.leave(0);
        Check.is("the log goes on", 3, () -> w.log(1, 3));
        Check.is("the log goes on", 2, () -> w.count(13));
        DryDock y = new DryDock();
        y.image();
        Check.law(y, "pull 1");
        y.back();
        Check.is("without a law again", -1, () -> y.count(2));
        Check.is("without a law again", 2, y::pulls);
        y.pumps(3);
        DryDock z = new DryDock();
        z.pumps(3);
        Check.is("no image", false, z::back);
        Check.is("nothing happened", 1, () -> z.count(14));
    }

    /** Eight ships of the greatest fee are the most that the purse can hold. */
    private static void purse() {
        DryDock x = new DryDock();
        Check.law(x, "fee 40;fee 40;fee 40;fee 40;fee 40;fee 40;fee 40;fee 40;fee 40;fee 40;fee 40;fee 40");
        for (int i = 0; i < 8; i++) {
            x.comes(12, 1, 0);
            x.enter(i, 0);
            Check.is("fee", 36 + 480, () -> x.leave(x.count(0) - 1));
        }
        Check.is("purse", 8 * 516, () -> x.count(8));
    }
}
