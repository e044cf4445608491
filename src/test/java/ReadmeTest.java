import java.lang.reflect.Method;
import java.lang.reflect.Modifier;
import java.nio.file.Files;
import java.nio.file.Path;

/** README.md: its examples stand here, too, word for word, and answer as it says; each call of the face is told there. */
public final class ReadmeTest {
    public static void main(String[] args) throws Exception {
        ships();
        textsAndRows();
        examplesAreThese();
        allCallsAreTold();
        Check.end("ReadmeTest");
    }

    private static void ships() {
        DryDock dock = new DryDock();          // without SHIPS and BLOCKS; TIDE and LEVEL are 10, THE GATE is OPEN
        int ship = dock.comes(5, 6, 8);        // a SHIP comes (LENGTH, DRAUGHT, WORK): its number, 0
        int free = dock.enter(ship, 2);        // it is let in at PLACE 2: 19 PLACES are free then
        int wedges = dock.ship(ship, 9);       // WEDGES: 1 BLOCK more, and it would be BORNE
        boolean set = dock.block(4, true);     // a BLOCK is set: true, that changed
        boolean shut = dock.gate(false);       // THE GATE is shut: true, that changed
        int dry = dock.dry();                  // DRY: in 7 hours LEVEL is 2 at most
        int done = dock.hours(12);             // twelve HOURS more: 8 WORK was done
        int pumps = dock.pumps(0);             // PUMPS are told: there were 2
        int ease = dock.ease();                // EASE: in 9 hours it is EVEN
        int none = dock.hours(ease);           // no WORK is done in these: 0
        boolean open = dock.gate(true);        // THE GATE is opened: true
        int fee = dock.leave(ship);            // it is let out: its FEE, 15
        boolean undone = dock.undo();          // the latest ACT is UNDONE: the SHIP is DOCKED again
        Check.is("numbers", "0 19 1 7 8 2 9 0 15", () -> ship + " " + free + " " + wedges + " " + dry + " " + done + " "
                + pumps + " " + ease + " " + none + " " + fee);
        Check.that("all are true", set && shut && open && undone);
        Check.is("docked again", 1, () -> dock.ship(ship, 3));
    }

    static void put(DryDock dock, byte... bytes) {
        dock.end(0);
        for (int from = 0; from < bytes.length; from += 20) {
            int[] n = new int[5];
            for (int i = 0; i < 20 && from + i < bytes.length; i++) {
                n[i / 4] |= (bytes[from + i] & 255) << 24 - 8 * (i % 4);
            }
            dock.feed(n[0], n[1], n[2], n[3], n[4]);
        }
        dock.end(bytes.length);
    }

    static void put(DryDock dock, String text) {
        put(dock, text.getBytes(java.nio.charset.StandardCharsets.ISO_8859_1));
    }

    private static void textsAndRows() {
        DryDock told = new DryDock();
        put(told, "ship length 5 draught 6 work 8 at 2; ship length 4 draught 3; tide 8 10 12 14 16 18; blocks 4; surge 2");
        int texts = told.dock();               // there is 1 text
        put(told, "pull 3 if level > 9; leak 1 if not open and tide > level + 2; fee 7 if hurt or work > 5");
        int lines = told.law();                // 3 LINES
        int pulls = told.pulls();              // PULLS: 2 PUMPS and 3
        int owed = told.ship(0, 6);            // FEE of SHIP 0: 3 times LENGTH and 7, 22
        put(told, "level 3; pumps 10");        // PUMPS are 0 to 9, so dock() throws IllegalArgumentException
        try {
            told.dock();
            Check.that("dock throws", false);
        } catch (IllegalArgumentException e) {
            int wrong = told.fault();          // 15: there the 10 begins
            Check.is("fault", 15, () -> wrong);
        }
        put(told, (byte) 0, (byte) 12, (byte) 6, (byte) 4);      // at the hour 0 the height was 12, at 6 it was 4
        int curves = told.goes(false);                           // GOES: 7 tides fit
        put(told, (byte) 3, (byte) 1, (byte) 7, (byte) 0);       // at PLACE 3 a SHIP was touched, at 7 not
        int place = told.sound();                                // SOUND: PLACE 15 parts those that fit best
        Check.is("numbers", "1 3 5 22 7 15",
                () -> texts + " " + lines + " " + pulls + " " + owed + " " + curves + " " + place);
    }

    private static void examplesAreThese() throws Exception {
        String here = Files.readString(Path.of("src/test/java/ReadmeTest.java"));
        boolean java = false;
        for (String line : Files.readString(Path.of("README.md")).split("\n")) {
            if (line.startsWith("```")) {
                java = line.equals("```java");
            } else if (java) {
                Check.that("this test has the line " + line, here.contains(line.trim()));
            }
        }
    }

    private static void allCallsAreTold() throws Exception {
        String page = Files.readString(Path.of("README.md"));
        for (Method m : DryDock.class.getDeclaredMethods()) {
            if (Modifier.isPublic(m.getModifiers())) {
                Check.that("README.md tells " + m.getName(), page.contains("`" + m.getName() + "("));
            }
        }
    }
}
