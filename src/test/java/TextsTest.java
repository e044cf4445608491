/** Promises 1 to 6: a new object, the tape, texts of the dock and of the law, and where they are wrong. */
public final class TextsTest {
    public static void main(String[] args) {
        newObject();
        tape();
        docks();
        dockFaults();
        dockKeepsNothing();
        twelveTexts();
        laws();
        lawFaults();
        fullTapes();
        lawKeepsNothing();
        meanings();
        Check.end("TextsTest");
    }

    private static void newObject() {
        DryDock x = new DryDock();
        int[] counts = {0, 0, -1, 10, 1, 2, 3, 0, 0, 0, 0, 24, 0, 0, 0};
        for (int i = 0; i < counts.length; i++) {
            int what = i;
            Check.is("new: count " + i, counts[i], () -> x.count(what));
        }
        Check.is("new: count 15", -1, () -> x.count(15));
        Check.is("new: count -1", -1, () -> x.count(-1));
        for (int i = 0; i < 12; i++) {
            int hour = i;
            Check.is("new: tide", 10, () -> x.tide(hour));
        }
        Check.is("new: place", 0, () -> x.place(23, 0));
        Check.is("new: ship on place", -1, () -> x.place(0, 1));
        Check.is("new: no ship", "throws.IndexOutOfBoundsException", () -> x.ship(0, 0));
        Check.is("new: seed", 1, () -> x.seed(1));
        Check.is("new: fault", -1, x::fault);
        Check.is("new: undo", false, x::undo);
        Check.is("new: back", false, x::back);
        Check.is("new: log", -1, () -> x.log(0, 0));
    }

    private static void tape() {
        DryDock x = new DryDock();
        Check.is("end of none", true, () -> x.end(0));
        Check.is("end beyond", false, () -> x.end(1));
        Check.is("end below 0", false, () -> x.end(-1));
        for (int i = 1; i <= 20; i++) {
            Check.is("feed", 20 * i, () -> x.feed(0, 0, 0, 0, 0));
        }
        Check.is("feed beyond 400", -1, () -> x.feed(0, 0, 0, 0, 0));
        Check.is("none came", false, () -> x.end(401));
        Check.is("end 381", true, () -> x.end(381));
        Check.is("feed beyond 400 by one", -1, () -> x.feed(0, 0, 0, 0, 0));
        Check.is("end 380", true, () -> x.end(380));
        Check.is("feed to 400", 400, () -> x.feed(0, 0, 0, 0, 0));
        Check.is("end 0", true, () -> x.end(0));
        Check.is("highest first", 20, () -> x.feed(0x73687574, 0, 0, 0, 0));
        Check.is("end 4", true, () -> x.end(4));
        Check.is("end 5, when 4 are left", false, () -> x.end(5));
        Check.is("shut", 1, x::dock);
        Check.is("shut is read", 0, () -> x.count(4));
        Check.is("the tape is used up", false, () -> x.end(1));
        Check.put(x, "level 99");
        Check.is("wrong", "throws.IllegalArgumentException", x::dock);
        Check.is("the tape is used up by a wrong text", false, () -> x.end(1));
        Check.put(x, "pull 99");
        Check.is("wrong law", "throws.IllegalArgumentException", x::law);
        Check.is("the tape is used up by a wrong law", false, () -> x.end(1));
    }

    private static void docks() {
        DryDock x = Check.dock(" ship length12draught 20work 99at 12 ;ship length 1 draught 1 at 0;tide 30 0 5;"
                + "blocks 0 23 5;level 40;shut;pumps 9;hands 9;surge 5;hour 999 ");
        int[] counts = {2, 1, -1, 40, 0, 9, 9, 5, 0, 999, 3, 11, 99, 0, 0};
        for (int i = 0; i < counts.length; i++) {
            int what = i;
            Check.is("dock: count " + i, counts[i], () -> x.count(what));
        }
        Check.is("tide 0", 30, () -> x.tide(0));
        Check.is("tide 1", 0, () -> x.tide(1));
        Check.is("tide 2", 5, () -> x.tide(2));
        Check.is("tide 3", 10, () -> x.tide(3));
        Check.is("place of 0", 12, () -> x.ship(0, 4));
        Check.is("place of 1", 0, () -> x.ship(1, 4));
        Check.is("stand of 1", 1, () -> x.ship(1, 3));
        Check.is("length of 0", 12, () -> x.ship(0, 0));
        Check.is("draught of 0", 20, () -> x.ship(0, 1));
        Check.is("work of 1", 0, () -> x.ship(1, 2));
        Check.put(x, "ship length 2 draught 3;tide 1;tide 2 3;blocks 5 6 6;level 0;pumps 0;hands 0;surge 0;hour 0");
        Check.is("second text", 2, x::dock);
        Check.is("ships go on", 3, () -> x.count(0));
        Check.is("it waits", 0, () -> x.ship(2, 3));
        Check.is("blocks more", 4, () -> x.count(10));
        Check.is("tide from 0 on again", 2, () -> x.tide(0));
        Check.is("tide from 0 on again", 3, () -> x.tide(1));
        Check.is("still shut", 0, () -> x.count(4));
        Check.put(x, "   ");
        Check.is("blanks are a text", 3, x::dock);
        Check.put(x, "tide 0 1 2 3 4 5 6 7 8 9 10 11;blocks 0 1 2 3 4 5 6 7 8 9 10 11;blocks 12 13 14 15");
        Check.is("twelve numbers", 4, x::dock);
        Check.is("tide 11", 11, () -> x.tide(11));
        Check.is("blocks", 17, () -> x.count(10));
    }

    private static void dockFaults() {
        DryDock x = new DryDock();
        Check.dockFault(x, "ship", 4);
        Check.dockFault(x, "ship  ", 6);
        Check.dockFault(x, "ships", 0);
        Check.dockFault(x, "  SHIP", 2);
        Check.dockFault(x, "ship draught", 5);
        Check.dockFault(x, "ship length 0", 12);
        Check.dockFault(x, "ship length x", 12);
        Check.dockFault(x, "ship length 0001 draught 1", 12);
        Check.dockFault(x, "ship length 1 draught 0", 22);
        Check.dockFault(x, "ship length 1 draught 1 at 3 work 1", 29);
        Check.dockFault(x, "ship length 1 draught 1 work 1 work 1", 31);
        Check.dockFault(x, "ship length 1 draught 1 at", 26);
        Check.dockFault(x, "ship length 12 draught 1 at 13", 28);
        Check.dockFault(x, "ship length 3 draught 1 at 5;ship length 3 draught 1 at 3", 56);
        Check.dockFault(x, "ship length 3 draught 1 at 5;ship length 3 draught 1 at 7", 56);
        Check.dockFault(x, "xhip length 1 draught 1", 0);
        Check.dockFault(x, "shuta", 0);
        Check.dockFault(x, "shutz", 0);
        Check.dockFault(x, "ship length 1 draught 1 at 24", 27);
        Check.dockFault(x, "ship length 1 draught 1 work 100", 29);
        Check.dockFault(x, "level 41", 6);
        Check.dockFault(x, "pumps 10", 6);
        Check.dockFault(x, "hands 10", 6);
        Check.dockFault(x, "surge 6", 6);
        Check.dockFault(x, "hour 1000", 5);
        Check.dockFault(x, "tide 1 1 1 1 1 1 1 1 1 1 1 1 1", 29);
        Check.dockFault(x, "blocks 1 2 3 4 5 6 7 8 9 1 2 3 4", 31);
        Check.dockFault(x, "blocks 24", 7);
        Check.dockFault(x, "tide", 4);
        Check.dockFault(x, "tide ;", 5);
        Check.dockFault(x, "tide 1 2 31", 9);
        Check.dockFault(x, "tide 1,2", 6);
        Check.dockFault(x, "blocks 1 2 x", 11);
        Check.dockFault(x, "blocks 1 1000", 9);
        Check.dockFault(x, "level", 5);
        Check.dockFault(x, "level 1 2", 8);
        Check.dockFault(x, "level1 shut", 7);
        Check.dockFault(x, "levels 1", 0);
        Check.dockFault(x, "shut shut", 5);
        Check.dockFault(x, "shutlevel 1", 0);
        Check.dockFault(x, "hour 1 ;", 8);
        Check.dockFault(x, ";hour 1", 0);
        Check.dockFault(x, "hour 1;;hour 1", 7);
        Check.dockFault(x, "hour 1; tugs", 8);
        Check.dockFault(x, "hour 1\t", 6);
        Check.dockFault(x, "hour 1" + (char) 233, 6);
        String fourteen = "shut;shut;shut;shut;shut;shut;shut;shut;shut;shut;shut;shut;shut;shut";
        Check.dockFault(x, fourteen + ";", 70);
        Check.dockFault(x, fourteen + "; shut", 71);
        Check.dockFault(x, fourteen + " tugs", 70);
        Check.is("no text stands", 0, () -> x.count(1));
        Check.is("no block stands", 0, () -> x.count(10));
        Check.is("no ship stands", 0, () -> x.count(0));
        Check.dockFault(x, fourteen, -1);
        for (int i = 0; i < 8; i++) {
            x.comes(1, 1, 0);
        }
        Check.dockFault(x, "hour 7; ship length 99", 8);
    }

    private static void dockKeepsNothing() {
        DryDock x = Check.dock("ship length 3 draught 4 at 2");
        x.pumps(5);
        String before = Check.all(x);
        Check.dockFault(x, "ship length 1 draught 1;tide 1 2;blocks 1;level 3;shut;pumps 1;hands 1;surge 1;hour 4;x", 86);
        Check.is("nothing of a wrong text stays", before, () -> Check.all(x));
        Check.is("an act is still remembered", 1, () -> x.count(14));
        Check.dockFault(x, "ship length 1 draught 1 at 4", 27);
        Check.dockFault(x, "ship length 1 draught 1 at 5", -1);
        Check.is("a text: none are remembered", 0, () -> x.count(14));
        Check.is("a text: nothing to undo", false, x::undo);
    }

    private static void twelveTexts() {
        DryDock x = new DryDock();
        for (int i = 1; i <= 12; i++) {
            Check.is("dock " + i, i, x::dock);
        }
        x.pumps(4);
        String before = Check.all(x);
        Check.put(x, "level 99");
        Check.is("wrong comes first", "throws.IllegalArgumentException", x::dock);
        Check.is("fault of it", 6, x::fault);
        Check.put(x, "level 9");
        Check.is("there are 12", "throws.UnsupportedOperationException", x::dock);
        Check.is("the text that was read was right", -1, x::fault);
        Check.is("the tape is used up", false, () -> x.end(1));
        Check.is("nothing changed", before, () -> Check.all(x));
    }

    private static void laws() {
        DryDock x = new DryDock();
        Check.is("empty law", 0, x::law);
        Check.is("it is one", 0, () -> x.count(2));
        Check.put(x, " pull 40 ; leak 0;fee 3if open ");
        Check.is("three", 3, x::law);
        Check.is("lines", 3, () -> x.count(2));
        Check.is("pulls", 42, x::pulls);
        Check.put(x, "pull 1;pull 1;pull 1;pull 1;pull 1;pull 1;pull 1;pull 1;pull 1;pull 1;pull 1;pull 1");
        x.hands(2);
        Check.is("twelve, in place of the one before", 12, x::law);
        Check.is("pulls", 14, x::pulls);
        Check.is("a text: none are remembered", 0, () -> x.count(14));
        Check.is("fault", -1, x::fault);
    }

    private static void lawFaults() {
        DryDock x = new DryDock();
        Check.lawFault(x, "pulls 1", 0);
        Check.lawFault(x, "pull 1 2", 7);
        Check.lawFault(x, "pull 1 or", 7);
        Check.lawFault(x, "pull 1 if  ", 11);
        Check.lawFault(x, "pull 1 if if", 10);
        Check.lawFault(x, "pull 1 if open open", 15);
        Check.lawFault(x, "pull 1 if open and", 18);
        Check.lawFault(x, "pull 1 if open or ;", 18);
        Check.lawFault(x, "pull 1 if open <", 15);
        Check.lawFault(x, "pull 1 if open)", 14);
        Check.lawFault(x, "pull 1 if ()", 11);
        Check.lawFault(x, "pull 1 if (open;", 15);
        Check.lawFault(x, "pull 1 if 5", 11);
        Check.lawFault(x, "pull 1 if 5;", 11);
        Check.lawFault(x, "pull 1 if 5 and open", 12);
        Check.lawFault(x, "pull 1 if 5 < 6 < 7", 16);
        Check.lawFault(x, "pull 1 if 5 <", 13);
        Check.lawFault(x, "pull 1 if 5 < open", 14);
        Check.lawFault(x, "pull 1 if 5 + < 6", 14);
        Check.lawFault(x, "pull 1 if 5 + open < 6", 14);
        Check.lawFault(x, "pull 1 if 1000 < 6", 10);
        Check.lawFault(x, "pull 1 if (5 < 6) < 7", 18);
        Check.lawFault(x, "pull 1 if (5) < 7", 12);
        Check.lawFault(x, "pull 1 if not", 13);
        Check.lawFault(x, "pull 1 if not 5", 15);
        Check.lawFault(x, "pull 1 if levels < 6", 10);
        Check.lawFault(x, "pull 1 if ((((((open))))))", -1);
        Check.lawFault(x, "pull 1 if (((((((open)))))))", 16);
        Check.lawFault(x, "pull 1 if not(not(not(open)))", -1);
        Check.lawFault(x, "pull 1 if not(not(not((open))))", 22);
        Check.lawFault(x, "pull 1 if ((((((open)))))) and not not not not not not dry or ((((((5<hour))))))", -1);
        Check.lawFault(x, "pull 1 if not not not not not not (open)", 34);
        Check.lawFault(x, "pull 1 if 999+ship+length+draught+work+level+tide+hour>0", -1);
        String twelve = "fee 1;fee 1;fee 1;fee 1;fee 1;fee 1;fee 1;fee 1;fee 1;fee 1;fee 1;fee 1";
        Check.lawFault(x, twelve, -1);
        Check.lawFault(x, twelve + ";", 72);
        Check.lawFault(x, twelve + ";fee 1", 72);
        Check.lawFault(x, twelve + "; x", 73);
        Check.lawFault(x, "", -1);
        Check.is("fault is of the latest text", -1, x::fault);
    }

    /** The tape at its fullest: 400 things, and the longest sum. */
    private static void fullTapes() {
        DryDock x = new DryDock();
        Check.dockFault(x, ";".repeat(400), 0);
        Check.lawFault(x, ";".repeat(400), 0);
        Check.lawFault(x, "fee 1 if " + "(".repeat(391), 15);
        Check.dockFault(x, " ".repeat(400), -1);
        Check.dockFault(x, "x".repeat(400), 0);
        Check.dockFault(x, "level " + "0".repeat(394), 6);
        Check.dockFault(x, "level 7" + " ".repeat(392) + ";", 400);
        Check.lawFault(x, "pull 7 if 1" + "+1".repeat(190) + ">190", -1);
        Check.is("191 is above 190", 9, x::pulls);
        Check.lawFault(x, "pull 7 if 1" + "+1".repeat(190) + ">191", -1);
        Check.is("191 is not above 191", 2, x::pulls);
        Check.lawFault(x, "pull 7 if dry" + " or dry".repeat(54) + " or open", -1);
        Check.is("the last of many", 9, x::pulls);
        Check.lawFault(x, "pull 7 if 1" + "+1".repeat(194) + "+", 400);
    }

    private static void lawKeepsNothing() {
        DryDock x = Check.law(new DryDock(), "pull 7");
        x.hands(1);
        Check.lawFault(x, "pull 9;leak 3;x", 14);
        Check.is("the law before stays", 9, x::pulls);
        Check.is("its lines", 1, () -> x.count(2));
        Check.is("an act is still remembered", 1, () -> x.count(14));
    }

    /** Which of the fee lines (of 1, 2, 4, .. 32) hold for a ship. */
    private static int held(DryDock x, int ship) {
        return x.ship(ship, 6) - 3 * x.ship(ship, 0);
    }

    private static void meanings() {
        DryDock x = Check.dock("ship length 3 draught 4 work 5 at 2;ship length 7 draught 12 work 0;level 10;hour 27;"
                + "tide 1 2 3 14 5");
        Check.law(x, "fee 1 if ship < 1;fee 2 if length > 6;fee 4 if draught + 1 < 6;fee 8 if work > 4;"
                + "fee 16 if level + tide > 23;fee 32 if hour > 2 and hour < 4");
        Check.is("ship 0", 1 + 4 + 8 + 16 + 32, () -> held(x, 0));
        Check.is("ship 1", 2 + 16 + 32, () -> held(x, 1));
        Check.law(x, "fee 1 if open;fee 2 if dry;fee 4 if hurt;fee 8 if open and dry or open;"
                + "fee 16 if open and (dry or not dry);fee 32 if not open or dry");
        Check.is("open, not dry, not hurt", 1 + 8 + 16, () -> held(x, 0));
        x.gate(false);
        Check.is("shut", 32, () -> held(x, 0));
        x.pumps(9);
        x.hours(1);
        Check.is("level", 1, () -> x.count(3));
        Check.is("shut, dry, hurt", 2 + 4 + 32, () -> held(x, 0));
        Check.is("of another ship", 2 + 32, () -> held(x, 1));
        Check.law(x, "fee 1 if not dry and open;fee 2 if not (dry and open);fee 4 if open or dry and hurt;"
                + "fee 8 if 3 < 3;fee 16 if 3 > 3;fee 32 if 1 + 1 + 1 < 2 + 2");
        Check.is("not binds the nearest, and before or", 2 + 4 + 32, () -> held(x, 0));
        DryDock deep = new DryDock();
        String within = "dry or open and (";
        Check.law(deep, "pull 5 if " + within.repeat(6) + "dry or open and 1 + 2 < 3 + 4))))));"
                + "leak 7 if " + within.repeat(6) + "dry or open and 3 + 4 < 1 + 2))))))");
        Check.is("six deep, and it holds", 2 + 5, deep::pulls);
        Check.is("six deep, and it does not hold", 0, deep::leaks);
        DryDock two = Check.dock("ship length 1 draught 1;level 2");
        Check.law(two, "fee 1 if dry;fee 2 if 0 < 1;fee 4 if 0 > 0");
        Check.is("dry at 2", 1 + 2, () -> held(two, 0));
        Check.put(two, "level 3");
        two.dock();
        Check.is("not dry at 3", 2, () -> held(two, 0));
        Check.law(x, "pull 1 if ship > 8;pull 2 if ship < 10;pull 4 if length < 1;pull 8 if draught > 0;"
                + "pull 16 if work < 1;pull 32 if hurt");
        Check.is("of no ship: pull", 9 + 1 + 2 + 4 + 16, x::pulls);
        Check.law(x, "leak 1 if ship > 8;leak 2 if ship < 10;leak 4 if length < 1;leak 8 if draught > 0;"
                + "leak 16 if work < 1;leak 32 if hurt");
        Check.is("of no ship: leak", 1 + 1 + 2 + 4 + 16, x::leaks);
    }
}
