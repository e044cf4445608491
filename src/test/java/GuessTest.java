/** Promises 30 to 34: how a tide goes, and where a ship lies, by rows on the tape. */
public final class GuessTest {
    public static void main(String[] args) {
        goes();
        asks();
        lies();
        sounds();
        wrongRows();
        Check.end("GuessTest");
    }

    private static void curve(int fit, int first, int ask, int... rows) {
        DryDock x = new DryDock();
        String told = java.util.Arrays.toString(rows);
        Check.put(x, rows);
        Check.is("goes " + told, fit, () -> x.goes(false));
        Check.is("the tape is used up", false, () -> x.end(1));
        Check.put(x, rows);
        Check.is("curve " + told, first, () -> x.goes(true));
        Check.put(x, rows);
        Check.is("ask " + told, ask, x::ask);
        Check.is("the tape is used up", false, () -> x.end(1));
    }

    /** LOW 4, HIGH 28 and LATE 5 have in the hours 0 to 11: 8, 4, 8, 12, .. 28 (7), .. 12. */
    private static void goes() {
        int curve = 372 * 4 + 12 * 28 + 5;
        curve(1, curve, -1, 0, 8, 1, 4, 2, 8, 3, 12, 4, 16, 5, 20, 6, 24, 7, 28, 8, 24, 9, 20, 10, 16, 11, 12);
        curve(1, curve, -1, 12, 8, 97, 4, 50, 8, 7, 28, 98, 8);
        curve(0, -1, -1, 0, 8, 0, 9);
        curve(0, -1, -1, 0, 8, 12, 9);
        curve(0, -1, -1, 0, 30, 1, 0);
        curve(0, -1, -1, 0, 30, 3, 0, 9, 30);
        curve(1, 372 * 0 + 12 * 30, -1, 0, 30, 6, 0);
        DryDock x = new DryDock();
        Check.put(x, 0, 0, 1, 0, 2, 0, 3, 0, 4, 0, 5, 0, 6, 0, 7, 0, 8, 0, 9, 0, 10, 0, 11, 0);
        Check.is("all 0: each LATE", 12, () -> x.goes(false));
        Check.put(x, 99, 30);
        Check.is("first of HIGH 30, or flat: hour 99 is 3", 12 * 30 + 9, () -> x.goes(true));
    }

    private static void asks() {
        DryDock x = new DryDock();
        Check.put(x, new int[0]);
        Check.is("of several the least", 0, x::ask);
        int[] flat = {0, 0, 1, 0, 2, 0, 3, 0, 4, 0, 5, 0, 6, 0, 7, 0, 8, 0, 9, 0, 10, 0, 11, 0};
        Check.put(x, flat);
        Check.is("12 that no hour parts: the least", 0, x::ask);
        Check.put(x, 0, 0, 6, 6);
        Check.is("how many", 1, () -> x.goes(false));
        Check.put(x, 0, 0, 6, 6);
        Check.is("fewer than two", -1, x::ask);
        Check.put(x, flat);
        Check.is("how many", 12, () -> x.goes(false));
        int[] high = new int[24];
        for (int i = 0; i < 12; i++) {
            high[2 * i] = i;
            high[2 * i + 1] = 30;
        }
        Check.put(x, high);
        Check.is("all 30: each LATE", 12, () -> x.goes(false));
        Check.put(x, 0, 0, 3, 15, 6, 30, 9, 15);
        Check.is("LATE 6 alone", 1, () -> x.goes(false));
        Check.put(x, 0, 15, 1, 10, 2, 5);
        int fit = x.goes(false);
        Check.put(x, 0, 15, 1, 10, 2, 5);
        int ask = x.ask();
        Check.that("an hour that was told parts nothing", fit < 2 || ask > 2);
    }

    private static void lying(int fit, int likely, int sound, int... rows) {
        DryDock x = new DryDock();
        String told = java.util.Arrays.toString(rows);
        Check.put(x, rows);
        Check.is("lies " + told, fit, x::lies);
        Check.is("the tape is used up", false, () -> x.end(1));
        Check.put(x, rows);
        Check.is("likely " + told, likely, x::likely);
        Check.is("the tape is used up", false, () -> x.end(1));
        Check.put(x, rows);
        Check.is("sound " + told, sound, x::sound);
        Check.is("the tape is used up", false, () -> x.end(1));
    }

    /** 24 + 23 + .. + 13 ways in all. A row told twice is right, as one at most may be wrong. */
    private static void lies() {
        lying(222, 0, 11);
        lying(222, 0, 11, 5, 0);
        lying(1, 12 * 0 + 0, -1, 0, 1, 0, 1, 1, 0, 1, 0);
        lying(1, 12 * 23 + 0, -1, 23, 1, 23, 1, 22, 0, 22, 0);
        lying(2, 12 * 4 + 1, 3, 4, 1, 4, 1, 5, 1, 5, 1, 6, 0, 6, 0, 3, 0, 2, 0, 2, 0);
        lying(0, -1, -1, 0, 1, 0, 1, 12, 1, 12, 1);
        lying(0, -1, -1, 3, 1, 3, 1, 3, 0, 3, 0);
        lying(12, 0, 6, 0, 1, 0, 1);
        lying(1, 12 * 6 + 11, -1, 6, 1, 6, 1, 17, 1, 17, 1);
        DryDock x = new DryDock();
        Check.put(x, 9, 1);
        Check.is("one row may be wrong: all fit", 222, x::lies);
        Check.put(x, 9, 1);
        Check.is("fewest wrong first", 9, x::likely);
        Check.put(x, 0, 0, 1, 0, 2, 0, 3, 0, 4, 0, 5, 0, 6, 0, 7, 0, 8, 0, 9, 0, 10, 0, 11, 0, 12, 0, 13, 0, 14, 0, 15, 0,
                16, 0, 17, 0, 18, 0, 19, 0);
        Check.is("20 to 23, or one of 0 to 18 alone, or from 19 on", 10 + 19 + 5, x::lies);
    }

    private static void sounds() {
        DryDock x = new DryDock();
        Check.put(x, 0, 1, 0, 1, 12, 0);
        Check.is("from 0 on: 6 of 12 reach 6", 6, x::sound);
        Check.put(x, 0, 1, 0, 1, 1, 0, 1, 0);
        Check.is("one alone", -1, x::sound);
        Check.put(x, 1, 1, 1, 1, 2, 0, 2, 0);
        Check.is("1, or 0 and 1", 0, x::sound);
        Check.put(x, 23, 1, 23, 1, 0, 0);
        Check.is("up to 23: the place 17 is of 6 of 12", 17, x::sound);
    }

    private static void refused(String why, int... rows) {
        String wrong = "throws.IllegalArgumentException";
        DryDock x = new DryDock();
        x.pumps(4);
        String before = Check.all(x);
        Check.put(x, rows);
        Check.is(why, wrong, () -> x.goes(false));
        Check.is("the tape is used up", false, () -> x.end(1));
        Check.put(x, rows);
        Check.is(why, wrong, () -> x.goes(true));
        Check.put(x, rows);
        Check.is(why, wrong, x::ask);
        Check.put(x, rows);
        Check.is(why, wrong, x::lies);
        Check.is("the tape is used up", false, () -> x.end(1));
        Check.put(x, rows);
        Check.is(why, wrong, x::likely);
        Check.put(x, rows);
        Check.is(why, wrong, x::sound);
        Check.is("nothing changes", before, () -> Check.all(x));
    }

    private static void wrongRows() {
        refused("an odd byte", 1);
        refused("three bytes", 1, 0, 1);
        refused("hour 100", 100, 0);
        refused("hour 255", 0, 0, 255, 0);
        refused("height 31, or not 1", 0, 31);
        refused("42 bytes", new int[42]);
        DryDock x = new DryDock();
        Check.put(x, 24, 0);
        Check.is("hour 24 is one: LOW 0 in the hour 0, by LATE 6, or small swings", 0 * 372 + 0, () -> x.goes(true));
        Check.put(x, 24, 0);
        Check.is("place 24 is none", "throws.IllegalArgumentException", x::lies);
        Check.put(x, 23, 2);
        Check.is("touched is 1 or 0", "throws.IllegalArgumentException", x::lies);
        Check.put(x, 99, 30);
        Check.that("99 and 30 are right", Check.answer(() -> x.goes(false)).matches("[0-9]+"));
        Check.put(x, new int[40]);
        Check.is("40 bytes: hour 0 is 0", 0, () -> x.goes(true));
        Check.put(x, new int[40]);
        Check.is("40 bytes: not at 0", 12, x::likely);
        Check.is("rows are no text", -1, x::fault);
    }
}
