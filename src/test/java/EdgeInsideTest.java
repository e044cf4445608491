import java.lang.reflect.Constructor;
import java.lang.reflect.Field;
import java.lang.reflect.Method;

/**
 * Two bounds of the document that no run of calls reaches (eight ships bring 4128 and 40 rows at most): "PURSE 0 to
 * 9999" and THE LOG's "latest 60 times". They are tested from inside.
 */
public final class EdgeInsideTest {
    public static void main(String[] args) throws Exception {
        purse();
        log();
        Check.end("EdgeInsideTest");
    }

    private static Field field(Class<?> of, String name) throws Exception {
        Field f = of.getDeclaredField(name);
        f.setAccessible(true);
        return f;
    }

    private static Method method(Class<?> of, String name) {
        for (Method m : of.getDeclaredMethods()) {
            if (m.getName().equals(name)) {
                m.setAccessible(true);
                return m;
            }
        }
        throw new IllegalStateException("no method " + name);
    }

    /** "PURSE is FEE more, 9999 at most". */
    private static void purse() throws Exception {
        int[][] cases = {{9900, 9936}, {9962, 9998}, {9963, 9999}, {9964, 9999}, {9999, 9999}};
        for (int[] c : cases) {
            DryDock x = Check.dock("ship length 12 draught 1 at 0");
            Object now = field(DryDock.class, "now").get(x);
            field(now.getClass(), "purse").setInt(now, c[0]);
            Check.is("the fee is told whole", 36, () -> x.leave(0));
            Check.is("purse of " + c[0] + " and 36", c[1], () -> x.count(8));
            x.undo();
            Check.is("undone", c[0], () -> x.count(8));
        }
    }

    /** "THE LOG: the latest 60 times". */
    private static void log() throws Exception {
        for (int times = 1; times <= 130; times++) {
            DryDock x = logged(times);
            int rows = Math.min(60, times);
            Check.is("rows", rows, () -> x.count(13));
            for (int ago : new int[] {0, 1, rows - 1, rows}) {
                row(x, ago, times - 1 - ago, ago < rows);
            }
        }
        DryDock x = logged(130);
        Check.is("61 and 122 are of 1, but 61 is forgotten", 1, () -> x.led(1, false));
        Check.is("the latest of 1", 122, () -> x.led(1, true));
        Check.is("rows of 0", 59, () -> x.led(0, false));
        copied(logOf(x));
    }

    private static Object logOf(DryDock x) throws Exception {
        Object now = field(DryDock.class, "now").get(x);
        return field(now.getClass(), "log").get(now);
    }

    private static DryDock logged(int times) throws Exception {
        DryDock x = Check.dock("ship length 1 draught 1;ship length 1 draught 1");
        Object log = logOf(x);
        Method add = method(log.getClass(), "add");
        for (int n = 0; n < times; n++) {
            add.invoke(log, n, n % 61 == 0 ? 1 : 0, n % 4, n % 24, n % 41);
        }
        return x;
    }

    private static void row(DryDock x, int ago, int n, boolean is) {
        int[] due = {n, n % 61 == 0 ? 1 : 0, n % 4, n % 24, n % 41};
        for (int i = 0; i < 5; i++) {
            int what = i;
            Check.is("row " + n + ", what " + i, is ? due[i] : -1, () -> x.log(ago, what));
        }
    }

    /** A full log is copied whole. */
    private static void copied(Object log) throws Exception {
        Constructor<?> maker = log.getClass().getDeclaredConstructor();
        maker.setAccessible(true);
        Object other = maker.newInstance();
        method(log.getClass(), "copy").invoke(other, log);
        Method cell = method(log.getClass(), "cell");
        for (int ago = 0; ago <= 60; ago++) {
            for (int what = 0; what < 5; what++) {
                Object due = cell.invoke(log, ago, what);
                Check.that("copied " + ago, due.equals(cell.invoke(other, ago, what)));
            }
        }
    }
}
