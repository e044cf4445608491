/**
 * Texts of THE DOCK: how many, how many LINES, digits and numbers, what may be left out, and at which byte a text is
 * wrong. In the texts here | stands ahead of the first wrong byte.
 */
public final class EdgeDockTextTest {
    public static void main(String[] args) {
        tapeBounds();
        twelveTexts();
        wrongOf12();
        fourteenLines();
        digits();
        shipLines();
        shipsAt();
        tideLines();
        blockLines();
        settings();
        moreMustCome();
        words();
        blanks();
        everyByteBehind();
        everyByteAhead();
        everyByteBetween();
        noLine();
        firstOfSeveral();
        nothingStays();
        faults();
        Check.end("EdgeDockTextTest");
    }

    private static int size(DryDock x) {
        int size = x.feed(0, 0, 0, 0, 0);
        x.end(size - 20);
        return size - 20;
    }

    /** feed: "NONE, and none come, if it would have more than 400"; end: "false .. if it has fewer, or n is below 0". */
    private static void tapeBounds() {
        DryDock x = new DryDock();
        for (int n = 20; n <= 400; n += 20) {
            int due = n;
            Check.is("feed to " + n, due, () -> x.feed(-1, -1, -1, -1, -1));
        }
        Check.is("feed to 420", -1, () -> x.feed(-1, -1, -1, -1, -1));
        Check.is("401 are not there", false, () -> x.end(401));
        Check.is("400 are", true, () -> x.end(400));
        for (int n : new int[] {-1, 401, Integer.MIN_VALUE, Integer.MAX_VALUE}) {
            Check.is("end " + n, false, () -> x.end(n));
        }
        Check.is("nothing happened", -1, () -> x.feed(0, 0, 0, 0, 0));
        Check.is("end 381", true, () -> x.end(381));
        Check.is("feed to 401", -1, () -> x.feed(0, 0, 0, 0, 0));
        Check.is("none came", false, () -> x.end(382));
        Check.is("end 380", true, () -> x.end(380));
        Check.is("feed to 400", 400, () -> x.feed(0, 0, 0, 0, 0));
        Check.is("end 1", true, () -> x.end(1));
        Check.is("end 2", false, () -> x.end(2));
        Check.is("still 1", 21, () -> x.feed(0, 0, 0, 0, 0));
        Check.is("end 0", true, () -> x.end(0));
        Check.is("end 0 of 0", true, () -> x.end(0));
        Check.is("end 1 of 0", false, () -> x.end(1));
        order();
    }

    /** "Twenty bytes come behind the TAPE, of each number the highest first". */
    private static void order() {
        DryDock x = new DryDock();
        Check.is("level 3", 20, () -> x.feed(0x6c657665, 0x6c203320, 0x20202020, 0x20202020, 0x2020203b));
        Check.is("behind it: pumps 8", 40, () -> x.feed(0x70756d70, 0x73203820, 0x20202020, 0x20202020, 0x20202020));
        Check.is("read", 1, x::dock);
        Check.is("level", 3, () -> x.count(3));
        Check.is("pumps", 8, () -> x.count(5));
        Check.is("used up", 0, () -> size(x));
        Check.is("bytes above 127", 20, () -> x.feed(0x20202080, -1, -1, -1, -1));
        Check.is("wrong", "throws." + Check.ARGUMENT, x::dock);
        Check.is("at it", 3, x::fault);
    }

    private static DryDock withTexts(int n) {
        DryDock x = new DryDock();
        for (int i = 1; i <= n; i++) {
            Check.put(x, "level " + i);
            x.dock();
        }
        return x;
    }

    /** "THE DOCK is told in texts (at most 12, one behind another)"; dock(): "how many there are". */
    private static void twelveTexts() {
        DryDock x = new DryDock();
        for (int i = 1; i <= 12; i++) {
            int due = i;
            Check.put(x, i % 2 == 0 ? "" : "blocks " + i);
            Check.is("text " + i, due, x::dock);
            Check.is("texts " + i, due, () -> x.count(1));
        }
        Check.is("each one behind another", 6, () -> x.count(10));
        String[] right = {"", "  ", "level 9", "ship length 1 draught 1 at 3"};
        for (String text : right) {
            Check.refusedTape("a 13th text: " + text, Check.UNSUPPORTED, -1, () -> {
                DryDock y = withTexts(12);
                y.pumps(5);
                Check.put(y, text);
                return y;
            }, DryDock::dock);
        }
        DryDock y = withTexts(11);
        y.image();
        Check.is("the 12th", 12, y::dock);
        Check.is("the 13th", "throws." + Check.UNSUPPORTED, y::dock);
        y.back();
        Check.is("back: eleven", 11, () -> y.count(1));
        Check.is("the 12th again", 12, y::dock);
        Check.is("the 13th again", "throws." + Check.UNSUPPORTED, y::dock);
    }

    /** "Of several exceptions the one told first is thrown": a wrong 13th text is wrong. */
    private static void wrongOf12() {
        Check.refusedTape("a wrong 13th text", Check.ARGUMENT, 6, () -> {
            DryDock y = withTexts(12);
            y.pumps(5);
            Check.put(y, "level 41");
            return y;
        }, DryDock::dock);
        DryDock x = withTexts(12);
        Check.lawAt(x, "pull |41");
        Check.is("a right 13th text", "throws." + Check.UNSUPPORTED, x::dock);
        Check.is("was read, and is right", -1, x::fault);
        DryDock y = withTexts(11);
        Check.dockAt(y, "level |41");
        Check.is("a wrong text is none", 11, () -> y.count(1));
        Check.dockAt(y, "level 40");
    }

    /** "LINE { ; LINE }, at most 14"; "of a LINE .. too many, the first word". */
    private static void fourteenLines() {
        String fourteen = "hour 1" + ";hour 1".repeat(13);
        Check.dockAt("hour 1" + ";hour 1".repeat(12));
        Check.dockAt(fourteen);
        Check.dockAt(" " + fourteen + "  ");
        Check.dockAt(fourteen + ";|hour 1");
        Check.dockAt(fourteen + " ;  |hour 1");
        Check.dockAt(fourteen + ";|hour 1;hour 1");
        Check.dockAt(fourteen + ";|hour");
        Check.dockAt(fourteen + ";|xyz");
        Check.dockAt(fourteen + ";|");
        Check.dockAt(fourteen + ";  |");
        Check.dockAt(fourteen + ";|;");
        Check.dockAt(fourteen + " |hour 1");
        DryDock x = Check.dock("blocks 0;blocks 1;blocks 2;blocks 3;blocks 4;blocks 5;blocks 6;blocks 7;blocks 8;"
                + "blocks 9;blocks 10;blocks 11;blocks 12;blocks 13");
        Check.is("each of 14 tells", 14, () -> x.count(10));
    }

    /** "Numbers are of 1 to 3 digits"; wrong: "a number of more digits". */
    private static void digits() {
        Check.dockAt("level 0");
        Check.dockAt("level 00");
        Check.dockAt("level 000");
        Check.dockAt("level |0000");
        Check.dockAt("level 7");
        Check.dockAt("level 07");
        Check.dockAt("level 007");
        Check.dockAt("level |0007");
        Check.dockAt("hour 999");
        Check.dockAt("hour |9990");
        Check.dockAt("hour |" + "1".repeat(395));
        Check.dockAt("level 0 |07");
        Check.dockAt("tide 001 02 3 |0004");
        Check.dockAt("blocks 001 02 3 |0004");
        Check.dockAt("ship length |0001 draught 1");
        Check.dockAt("ship length 001 draught |0001");
        Check.dockAt("ship length 001 draught 001 work |0001");
        Check.dockAt("ship length 001 draught 001 work 001 at |0001");
        DryDock x = Check.dock("ship length 012 draught 007 work 099 at 003;tide 030 000;blocks 023;level 040");
        int[] due = {12, 7, 99, 1, 3};
        for (int i = 0; i < due.length; i++) {
            int what = i;
            Check.is("what " + i, due[i], () -> x.ship(0, what));
        }
        Check.is("tide", 30, () -> x.tide(0));
        Check.is("tide", 0, () -> x.tide(1));
        Check.is("block", 1, () -> x.place(23, 0));
        Check.is("level", 40, () -> x.count(3));
    }

    /** "ship length N draught N [ work N ] [ at N ]". */
    private static void shipLines() {
        Check.dockAt("ship length 3 draught 4");
        Check.dockAt("ship length 3 draught 4 work 5");
        Check.dockAt("ship length 3 draught 4 at 6");
        Check.dockAt("ship length 3 draught 4 work 5 at 6");
        Check.dockAt("ship length 3 draught 4 at 6 |work 5");
        Check.dockAt("ship length 3 draught 4 work 5 |work 5");
        Check.dockAt("ship length 3 draught 4 at 6 |at 6");
        Check.dockAt("ship |draught 4 length 3");
        Check.dockAt("ship |3");
        Check.dockAt("ship |;");
        Check.dockAt("ship length |draught 4");
        Check.dockAt("ship length 3 |work 5");
        Check.dockAt("ship length 3 |at 5");
        Check.dockAt("ship length 3 |4");
        Check.dockAt("ship length 3 draught |at 4");
        Check.dockAt("ship length 3 draught 4 |5");
        Check.dockAt("ship length 3 draught 4 |ship length 3 draught 4");
        Check.dockAt("ship length 3 draught 4 work |at 4");
        Check.dockAt("ship length 3 draught 4 work 5 at |;");
        Check.dockAt("ship length 3 draught 4 |tide 4");
        Check.dockAt("ship length 3 draught 4 |works 4");
        Check.dockAt("ship length 3 draught 4 |ats 4");
    }

    private static void fitAt(String taken, int length, int place, boolean fits) {
        String line = "ship length " + length + " draught 1 at ";
        Check.dockAt(taken + ";" + line + (fits ? "" : "|") + place);
        Check.dockAt(Check.dock(taken), line + (fits ? "" : "|") + place);
    }

    /** "at: it is DOCKED there; all its PLACES must be free and in the dock, else it is wrong at N". */
    private static void shipsAt() {
        String taken = "ship length 3 draught 1 at 10";
        for (int length = 1; length <= 12; length++) {
            for (int place = 0; place <= 25; place++) {
                fitAt(taken, length, place, place + length <= 10 || place >= 13 && place + length <= 24);
            }
        }
        DryDock x = Check.dock(taken);
        x.leave(0);
        Check.dockAt(x, "ship length 3 draught 1 at 10");
        Check.is("at the place of one gone", 1, () -> x.place(10, 1));
        DryDock y = Check.dock("ship length 3 draught 20 at 10;shut;level 0");
        Check.is("a text asks for no draught and no gate", 1, () -> y.ship(0, 3));
        Check.is("and lets nobody in", 0, () -> y.count(13));
        DryDock full = Check.dock("ship length 12 draught 1 at 0;ship length 12 draught 1 at 12");
        Check.is("full", 0, () -> full.count(11));
        for (int place = 0; place < 24; place++) {
            Check.dockAt(full, "ship length 1 draught 1 at |" + place);
        }
        Check.dockAt(full, "ship length 1 draught 1");
    }

    /** "tide: of the hour 0, 1, .. on, at most 12 numbers"; "numbers end where none stands next". */
    private static void tideLines() {
        String twelve = "tide 1 2 3 4 5 6 7 8 9 10 11 12";
        Check.dockAt(twelve);
        Check.dockAt(twelve + " |13");
        Check.dockAt(twelve + " |13 14");
        Check.dockAt(twelve + " |31");
        Check.dockAt(twelve + " |1000");
        Check.dockAt(twelve + " |tide 1");
        Check.dockAt(twelve + ";" + twelve);
        Check.dockAt("tide |;");
        Check.dockAt("tide |tide");
        Check.dockAt("tide 1 |shut");
        Check.dockAt("tide 1 |, 2");
        Check.dockAt("tide 1;|2");
        DryDock x = Check.dock(twelve + ";tide 30");
        Check.is("the hour 0 again", 30, () -> x.tide(0));
        Check.is("the hour 1 stays", 2, () -> x.tide(1));
        Check.is("the hour 11 stays", 12, () -> x.tide(11));
        Check.is("LEVEL stays, though THE GATE is OPEN", 10, () -> x.count(3));
    }

    /** "blocks: at most 12 PLACES more; one too many is wrong at it". */
    private static void blockLines() {
        String twelve = "blocks 0 2 4 6 8 10 12 14 16 18 20 22";
        String odd = "blocks 1 3 5 7 9 11 13 15 17 19 21 23";
        Check.dockAt(twelve);
        Check.dockAt(twelve + " |23");
        Check.dockAt(twelve + " |0");
        Check.dockAt(twelve + " |24");
        Check.dockAt(twelve + " |1000");
        Check.dockAt("blocks 5 5 5 5 5 5 5 5 5 5 5 5");
        Check.dockAt("blocks 5 5 5 5 5 5 5 5 5 5 5 5 |5");
        Check.dockAt("blocks 0 |24");
        Check.dockAt("blocks |999");
        Check.dockAt("blocks |;");
        Check.dockAt("blocks 1 |shut");
        DryDock x = Check.dock(twelve + ";" + odd);
        Check.is("all places", 24, () -> x.count(10));
        Check.dockAt(x, "blocks 0 0 23");
        Check.is("what is so already stays", 24, () -> x.count(10));
        DryDock y = Check.dock("blocks 5 5 6");
        Check.is("one told twice is one", 2, () -> y.count(10));
    }

    /** "level N | shut | pumps N | hands N | surge N | hour N": the latest one tells. */
    private static void settings() {
        DryDock x = Check.dock("level 1;level 2;pumps 3;pumps 4;hands 5;hands 6;surge 1;surge 2;hour 7;hour 8;shut;shut");
        int[] whats = {3, 4, 5, 6, 7, 9};
        int[] due = {2, 0, 4, 6, 2, 8};
        for (int i = 0; i < whats.length; i++) {
            int what = whats[i];
            Check.is("count " + what, due[i], () -> x.count(what));
        }
        Check.dockAt(x, "level 0;pumps 0;hands 0;surge 0;hour 0");
        for (int what : whats) {
            Check.is("count " + what, 0, () -> x.count(what));
        }
        for (String word : new String[] {"level", "pumps", "hands", "surge", "hour"}) {
            Check.dockAt(word + " 1 |2");
            Check.dockAt(word + " |x");
            Check.dockAt(word + " |;");
            Check.dockAt(word + " |" + word);
            Check.dockAt(word + "1;" + word + "1");
        }
        Check.dockAt("shut |1");
        Check.dockAt("shut |shut");
        Check.dockAt("|open");
        Check.dockAt("|gate 1");
        Check.dockAt("|pull 1");
    }

    /** "or the text's length, if more must come". */
    private static void moreMustCome() {
        String[] begun = {"ship", "ship length", "ship length 1", "ship length 1 draught", "ship length 1 draught 1 work",
            "ship length 1 draught 1 at", "ship length 1 draught 1 work 1 at", "tide", "blocks", "level", "pumps", "hands",
            "surge", "hour", "shut;", "level 1;", "tide 1 2;", "blocks 1;", "ship length 1 draught 1;"};
        for (String text : begun) {
            Check.dockAt(text + "|");
            Check.dockAt(text + " |");
            Check.dockAt("  " + text + "    |");
            Check.dockAt("shut;" + text + "|");
        }
        Check.dockAt("level" + " ".repeat(395) + "|");
    }

    /** "Words are as long as a to z go on"; "a word that is none". */
    private static void words() {
        String[] none = {"a", "z", "shi", "shipp", "ships", "shutlevel", "tides", "block", "blockss", "levels", "pump",
            "hand", "surges", "hours", "at", "work", "draught", "length", "SHIP", "Ship", "sHIP"};
        for (String word : none) {
            Check.dockAt("|" + word + " 1");
            Check.dockAt("  |" + word);
            Check.dockAt("shut;|" + word);
        }
        Check.dockAt("ship |LENGTH 1");
        Check.dockAt("ship|LENGTH 1");
        Check.dockAt("|shiplength 1 draught 1");
        Check.dockAt("ship |lengths 1 draught 1");
        Check.dockAt("ship length 1 |draughts 1");
        Check.dockAt("ship length 1 draught 1|x");
        Check.dockAt("ship length1draught1work1at1");
        Check.dockAt("ship length1draught1work1at1;tide1 2;blocks1 2;level1;shut;pumps1;hands1;surge1;hour1");
        Check.dockAt("tide 1 1|a");
        Check.dockAt("tide 1|a");
    }

    /** "between all there may be blanks (32), also ahead and behind". */
    private static void blanks() {
        String[] parts = {"ship", "length", "12", "draught", "20", "work", "99", "at", "12", ";", "tide", "30", "0", ";",
            "shut", ";", "hour", "999"};
        StringBuilder s = new StringBuilder("   ");
        for (String part : parts) {
            s.append(part).append("   ");
        }
        DryDock x = Check.dock(s.toString());
        Check.is("ships", 1, () -> x.count(0));
        Check.is("hour", 999, () -> x.count(9));
        Check.is("shut", 0, () -> x.count(4));
        Check.is("tide", 0, () -> x.tide(1));
        Check.dockAt("|le vel 1");
        Check.dockAt("level 1 |2");
        Check.dockAt(" ".repeat(393) + "level 7");
        Check.dockAt("level 7" + " ".repeat(393));
    }

    /** One byte more behind a word: only a blank may stand there; a letter makes another word of it. */
    private static void everyByteBehind() {
        for (int b = 0; b < 256; b++) {
            DryDock x = new DryDock();
            byte[] text = {'s', 'h', 'u', 't', (byte) b};
            Check.put(x, text);
            boolean right = b == ' ';
            int fault = right ? -1 : b >= 'a' && b <= 'z' ? 0 : b == ';' ? 5 : 4;
            Check.is("shut and byte " + b, right ? "1" : "throws." + Check.ARGUMENT, x::dock);
            Check.is("fault of shut and byte " + b, fault, x::fault);
        }
    }

    private static void everyByteAhead() {
        for (int b = 0; b < 256; b++) {
            DryDock x = new DryDock();
            byte[] text = {(byte) b, 's', 'h', 'u', 't'};
            Check.put(x, text);
            Check.is("byte " + b + " and shut", b == ' ' ? "1" : "throws." + Check.ARGUMENT, x::dock);
            Check.is("fault of byte " + b + " and shut", b == ' ' ? -1 : 0, x::fault);
        }
    }

    private static void everyByteBetween() {
        for (int b = 0; b < 256; b++) {
            DryDock x = new DryDock();
            byte[] text = {'l', 'e', 'v', 'e', 'l', (byte) b, '7'};
            Check.put(x, text);
            boolean right = b == ' ' || b >= '0' && b <= '3';
            Check.is("level, byte " + b + ", 7", right ? "1" : "throws." + Check.ARGUMENT, x::dock);
            Check.is("fault of level, byte " + b + ", 7", right ? -1 : b >= 'a' && b <= 'z' ? 0 : 5, x::fault);
        }
    }

    /** "A text that is empty, or blanks alone, has no LINE": it is a text. */
    private static void noLine() {
        for (int n : new int[] {0, 1, 2, 399, 400}) {
            DryDock x = new DryDock();
            x.pumps(5);
            Check.put(x, " ".repeat(n));
            Check.is(n + " blanks are a text", 1, x::dock);
            Check.is("it is right", -1, x::fault);
            Check.is("texts", 1, () -> x.count(1));
            Check.is("none are remembered", 0, () -> x.count(14));
            Check.is("all else stays", 5, () -> x.count(5));
        }
        Check.dockAt("|;");
        Check.dockAt(" |;shut");
        Check.dockAt("shut;|;shut");
        Check.dockAt("shut; |");
    }

    /** "The first wrong byte: the begin of the first thing that cannot stand there". */
    private static void firstOfSeveral() {
        Check.dockAt("level |41;pumps 10");
        Check.dockAt("level 40;pumps |10;level 41");
        Check.dockAt("ship length |13 draught 21");
        Check.dockAt("ship length 12 draught |21 work 100");
        Check.dockAt("ship length 12 draught 20 work |100 at 24");
        Check.dockAt("tide |31 0 0 0 0 0 0 0 0 0 0 0 0");
        Check.dockAt("tide 0 0 0 0 0 0 0 0 0 0 0 |31 0");
        Check.dockAt("|xyz;abc");
        String eight = "ship length 1 draught 1" + ";ship length 1 draught 1".repeat(7);
        Check.dockAt(eight + ";|ship length 13");
        Check.dockAt(eight + ";level |41;ship length 1 draught 1");
    }

    /** "Of a wrong text nothing stays". */
    private static void nothingStays() {
        String[] lines = {"ship length 1 draught 1", "ship length 1 draught 1 at 9", "tide 1 2 3", "blocks 1 2", "level 3",
            "shut", "pumps 1", "hands 1", "surge 1", "hour 4"};
        for (String line : lines) {
            Check.refusedTape(line + ";x", Check.ARGUMENT, line.length() + 1, () -> {
                DryDock x = Check.dock("ship length 2 draught 3 work 4 at 5;ship length 6 draught 7;blocks 5;hour 13");
                Check.law(x, "pull 7");
                x.image();
                x.block(7, true);
                x.hours(2);
                x.seed(99);
                Check.put(x, line + ";x");
                return x;
            }, DryDock::dock);
        }
    }

    /** "The first wrong byte of the latest text that was read; NONE without one, and ahead of any". */
    private static void faults() {
        DryDock x = new DryDock();
        Check.is("ahead of any", -1, x::fault);
        Check.dockAt(x, "level |41");
        Check.is("asked again", 6, x::fault);
        Check.lawAt(x, "pull 1;|x");
        Check.put(x, 1, 2, 3);
        Check.is("rows are no text", "throws." + Check.ARGUMENT, x::lies);
        Check.is("of the latest text", 7, x::fault);
        x.image();
        x.pumps(1);
        x.undo();
        Check.is("undone, it stays", 7, x::fault);
        Check.lawAt(x, "pull 1");
        x.back();
        Check.is("going back, it stays", -1, x::fault);
        Check.dockAt(x, "|9");
        x.back();
        Check.is("going back, it stays", 0, x::fault);
        Check.dockAt(x, "");
        Check.lawAt(x, "|9");
        Check.dockAt(x, "level 9");
    }
}
