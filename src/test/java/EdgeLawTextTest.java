/**
 * THE LAW: how many LINES, numbers, how deep, at which byte a text is wrong, and when a LINE holds. In the texts here |
 * stands ahead of the first wrong byte.
 */
public final class EdgeLawTextTest {
    public static void main(String[] args) {
        twelveLines();
        amounts();
        kinds();
        numbers();
        deep();
        notDeeper();
        moreMustCome();
        conditions();
        everyByte();
        noLine();
        inPlace();
        nothingStays();
        smallerAndGreater();
        binding();
        basin();
        ofNoShip();
        ofShips();
        leaksByTide();
        Check.end("EdgeLawTextTest");
    }

    /** "LINE { ; LINE }, at most 12"; law(): "how many LINES". */
    private static void twelveLines() {
        String[] kinds = {"pull 1", "leak 2", "fee 3 if open"};
        StringBuilder s = new StringBuilder();
        for (int i = 1; i <= 12; i++) {
            s.append(i == 1 ? "" : ";").append(kinds[i % 3]);
            int due = i;
            DryDock x = new DryDock();
            Check.put(x, s.toString());
            Check.is(i + " lines", due, x::law);
            Check.is(i + " lines counted", due, () -> x.count(2));
            Check.is(i + " lines are right", -1, x::fault);
        }
        Check.lawAt(s + ";|pull 1");
        Check.lawAt(s + " ;  |pull 1");
        Check.lawAt(s + ";|x");
        Check.lawAt(s + ";|");
        Check.lawAt(s + ";  |");
        Check.lawAt(s + ";|;");
        Check.lawAt(s + "   ");
        Check.lawAt("pull 1" + ";pull 1".repeat(11) + ";|pull 1;pull 1");
    }

    /** "(N 0 to 40)". */
    private static void amounts() {
        for (int i = 0; i <= 40; i++) {
            int n = i;
            DryDock x = Check.dock("ship length 1 draught 1");
            Check.law(x, "pull " + n + ";leak " + n + ";fee " + n);
            Check.is("pull " + n, 2 + n, x::pulls);
            Check.is("leak " + n, n, x::leaks);
            Check.is("fee " + n, 3 + n, () -> x.ship(0, 6));
        }
        for (String kind : new String[] {"pull", "leak", "fee"}) {
            Check.lawAt(kind + " |41");
            Check.lawAt(kind + " |999");
            Check.lawAt(kind + " |1000");
            Check.lawAt(kind + " |-1");
            Check.lawAt(kind + " 040");
            Check.lawAt(kind + " |0040");
            Check.lawAt(kind + " 00");
            Check.lawAt(kind + " 000");
            Check.lawAt(kind + " |0000");
            Check.lawAt(kind + "7if open");
            Check.lawAt(kind + " 7 |7");
            Check.lawAt(kind + " |if open");
            Check.lawAt(kind + " |;");
            Check.lawAt("|" + kind + "s 1");
        }
    }

    private static void kinds() {
        Check.lawAt("|pul 1");
        Check.lawAt("|7");
        Check.lawAt("|if open");
        Check.lawAt("|level 3");
        Check.lawAt("|ship length 1 draught 1");
        Check.lawAt("pull 1;|pulls 1");
        Check.lawAt("pull 1 |leak 1");
        Check.lawAt("pull 1 |or open");
        Check.lawAt("pull 1 if open |if open");
        Check.lawAt("pull 1 if open |pull 1");
        Check.lawAt("|PULL 1");
    }

    /** "All numbers are of 1 to 3 digits": in a SUM 0 to 999. */
    private static void numbers() {
        Check.lawAt("pull 1 if 0 < 1");
        Check.lawAt("pull 1 if 000 < 001");
        Check.lawAt("pull 1 if |0000 < 1");
        Check.lawAt("pull 1 if 999 > 998");
        Check.lawAt("pull 1 if |1000 > 998");
        Check.lawAt("pull 1 if 1 < |1000");
        Check.lawAt("pull 1 if 1 + |1000 < 1");
        Check.lawAt("pull 1 if 1 < 1 + |0001");
        DryDock x = new DryDock();
        Check.law(x, "pull 1 if 999 > 998;pull 2 if 999 > 999;pull 4 if 998 + 1 > 998;pull 8 if 999 + 999 + 999 > 999 + 999 + 998;"
                + "pull 16 if 999 + 1 > 999;pull 32 if 0 > 0");
        Check.is("numbers up to 999, and sums of them", 2 + 1 + 4 + 8 + 16, x::pulls);
    }

    /** "( and not within one another at most 6 deep": six are right, the 7th is wrong. */
    private static void deep() {
        Check.lawAt("pull 1 if " + "(".repeat(6) + "open" + ")".repeat(6));
        Check.lawAt("pull 1 if " + "(".repeat(6) + "|(open" + ")".repeat(7));
        Check.lawAt("pull 1 if " + "( ".repeat(6) + "|( ( open");
        Check.lawAt("pull 1 if " + "not ".repeat(6) + "open");
        Check.lawAt("pull 1 if " + "not ".repeat(6) + "|not open");
        Check.lawAt("pull 1 if " + "not ".repeat(6) + "|not not");
        Check.lawAt("pull 1 if " + "not ".repeat(6) + "|(open)");
        Check.lawAt("pull 1 if " + "(".repeat(6) + "|not open");
        Check.lawAt("pull 1 if not(not(not(open)))");
        Check.lawAt("pull 1 if not(not(not(|not open)))");
        Check.lawAt("pull 1 if not(not(not(|(open))))");
        Check.lawAt("pull 1 if (not(not(not open)))");
        Check.lawAt("pull 1 if (not(not(not |(open))))");
        Check.lawAt("pull 1 if ((((((1 < 2))))))");
        Check.lawAt("pull 1 if ((((((open or dry and hurt))))))");
        Check.lawAt("pull 1 if ((((((open or |(dry) and hurt))))))");
        Check.lawAt("pull 1 if ((((((open or dry and |not hurt))))))");
    }

    /** Only those within one another count: behind a ), of another ATOM, in another LINE it begins anew. */
    private static void notDeeper() {
        String six = "((((((open))))))";
        String sixNot = "not not not not not not open";
        Check.lawAt("pull 1 if " + six + " and " + six + " or " + six);
        Check.lawAt("pull 1 if " + sixNot + " and " + sixNot + " or " + sixNot);
        Check.lawAt("pull 1 if " + six + ";leak 1 if " + six);
        Check.lawAt("pull 1 if ((((((open)))))) and |)");
        Check.lawAt("pull 1 if (((((" + "(open) and (open) or (dry)" + ")))))");
        Check.lawAt("pull 1 if (((((not open and not dry or not hurt)))))");
        Check.lawAt("pull 1 if ((((not (open)))))");
        Check.lawAt("pull 1 if (((((not |(open))))))");
        Check.lawAt("pull 1 if (((((not open and (dry or |(hurt)))))))");
        for (int n = 0; n <= 6; n++) {
            DryDock x = new DryDock();
            Check.law(x, "pull 1 if " + "not ".repeat(n) + "open;pull 2 if " + "(".repeat(n) + "open" + ")".repeat(n));
            Check.is(n + " times not", 2 + (n % 2 == 0 ? 1 : 0) + 2, x::pulls);
        }
    }

    /** "or the text's length, if more must come". */
    private static void moreMustCome() {
        String[] begun = {"pull", "leak", "fee", "pull 1;", "pull 1 if", "pull 1 if not", "pull 1 if (", "pull 1 if (open",
            "pull 1 if open and", "pull 1 if open or", "pull 1 if 5", "pull 1 if ship", "pull 1 if 5 +", "pull 1 if 5 + tide",
            "pull 1 if 5 <", "pull 1 if 5 >", "pull 1 if 5 < 6 +", "pull 1 if (5 < 6", "pull 1 if ((open)",
            "pull 1 if ((((((open)))))", "pull 1 if open;", "pull 1 if (open or"};
        for (String text : begun) {
            Check.lawAt(text + "|");
            Check.lawAt(text + "   |");
            Check.lawAt("  fee 1;" + text + " |");
        }
    }

    /** ATOM, SUM and PART: what may stand where. */
    private static void conditions() {
        String[] parts = {"ship", "length", "draught", "work", "level", "tide", "hour", "0", "999"};
        for (String part : parts) {
            Check.lawAt("pull 1 if " + part + " < " + part);
            Check.lawAt("pull 1 if " + part + " + " + part + " > " + part + " + " + part);
            Check.lawAt("pull 1 if " + part + "<" + part + "+" + part);
            Check.lawAt("pull 1 if " + part + " |and open");
            Check.lawAt("pull 1 if " + part + " |)");
            Check.lawAt("pull 1 if " + part + " < " + part + " |< " + part);
            Check.lawAt("pull 1 if " + part + " < |(" + part + ")");
            Check.lawAt("pull 1 if (" + part + "|) < 1");
            Check.lawAt("pull 1 if " + part + " + |(" + part + ")");
        }
        for (String atom : new String[] {"open", "dry", "hurt"}) {
            Check.lawAt("pull 1 if " + atom);
            Check.lawAt("pull 1 if not " + atom);
            Check.lawAt("pull 1 if " + atom + " |< 1");
            Check.lawAt("pull 1 if " + atom + " |+ 1");
            Check.lawAt("pull 1 if 1 < |" + atom);
            Check.lawAt("pull 1 if 1 + |" + atom);
            Check.lawAt("pull 1 if " + atom + " |" + atom);
            Check.lawAt("pull 1 if " + atom + " |not " + atom);
            Check.lawAt("pull 1 if |" + atom + "s");
        }
        for (String none : new String[] {"shut", "pumps", "at", "gone", "ships", "OPEN", "=", "<", ">", "+", ")", ";", "and",
            "or", "if", "-1", "*"}) {
            Check.lawAt("pull 1 if |" + none);
        }
        Check.lawAt("pull 1 if 1 |= 1");
        Check.lawAt("pull 1 if 1 <|= 1");
        Check.lawAt("pull 1 if 1 |- 1 < 1");
        Check.lawAt("pull 1 if 1 |1 < 1");
        Check.lawAt("pull 1 if |notopen");
        Check.lawAt("pull 1 if open |andopen");
        Check.lawAt("pull 1 if open and|;");
        Check.lawAt("pull 1 if(open)or(dry)and(hurt)");
        Check.lawAt("pull 1 if not(open)and not(5<6)");
    }

    private static void everyByte() {
        for (int b = 0; b < 256; b++) {
            DryDock x = new DryDock();
            byte[] text = {'p', 'u', 'l', 'l', (byte) b, '7'};
            Check.put(x, text);
            boolean right = b == ' ' || b >= '0' && b <= '3';
            Check.is("pull, byte " + b + ", 7", right ? "1" : "throws." + Check.ARGUMENT, x::law);
            Check.is("fault of pull, byte " + b + ", 7", right ? -1 : b >= 'a' && b <= 'z' ? 0 : 4, x::fault);
            byte[] condition = {'f', 'e', 'e', ' ', '1', ' ', 'i', 'f', ' ', '5', (byte) b, '7'};
            Check.put(x, condition);
            right = b == '<' || b == '>';
            int fault = right ? -1 : b == ' ' ? 11 : b >= '0' && b <= '9' || b == '+' ? 12 : 10;
            Check.is("fee if 5, byte " + b + ", 7", right ? "1" : "throws." + Check.ARGUMENT, x::law);
            Check.is("fault of fee if 5, byte " + b + ", 7", fault, x::fault);
        }
    }

    /** "A text that is empty, or blanks alone, has no LINE": a law without LINES; count: "NONE without one". */
    private static void noLine() {
        for (int n : new int[] {0, 1, 400}) {
            DryDock x = Check.dock("ship length 2 draught 1");
            Check.is("without a law", -1, () -> x.count(2));
            Check.put(x, " ".repeat(n));
            Check.is("no lines", 0, x::law);
            Check.is("a law of no lines", 0, () -> x.count(2));
            Check.is("pulls", 2, x::pulls);
            Check.is("leaks", 0, x::leaks);
            Check.is("fee", 6, () -> x.ship(0, 6));
        }
        Check.lawAt("|;");
        Check.lawAt("pull 1;|;pull 1");
    }

    /** "THE LAW (a text, in place of the one before)". */
    private static void inPlace() {
        DryDock x = Check.dock("ship length 2 draught 1");
        Check.law(x, "pull 5;pull 6 if open;leak 7;fee 8 if 1 < 2");
        Check.is("pulls", 13, x::pulls);
        x.hands(4);
        Check.law(x, "leak 3");
        Check.is("pulls no more", 2, x::pulls);
        Check.is("leaks", 3, x::leaks);
        Check.is("fee", 6, () -> x.ship(0, 6));
        Check.is("lines", 1, () -> x.count(2));
        Check.is("none are remembered", 0, () -> x.count(14));
        Check.is("nothing to undo", false, x::undo);
        Check.is("texts of THE DOCK are counted alone", 1, () -> x.count(1));
        Check.law(x, "");
        Check.is("leaks no more", 0, x::leaks);
        for (int i = 0; i < 40; i++) {
            Check.put(x, "pull " + i);
            Check.is("laws without end", 1, x::law);
        }
        Check.is("the latest", 41, x::pulls);
    }

    /** "Of a wrong text nothing stays", and what was remembered is still. */
    private static void nothingStays() {
        Check.Maker with = () -> {
            DryDock x = Check.dock("ship length 2 draught 1 work 3 at 4");
            Check.law(x, "pull 5 if open;fee 6;leak 7 if level > 3");
            x.image();
            x.pumps(7);
            Check.put(x, "pull 1;leak 2;fee 3;fee 4 if");
            return x;
        };
        Check.refusedTape("a wrong law", Check.ARGUMENT, 28, with, DryDock::law);
        DryDock x = with.make();
        Check.is("wrong", "throws." + Check.ARGUMENT, x::law);
        Check.is("the pulls of before", 12, x::pulls);
        Check.is("the lines of before", 3, () -> x.count(2));
        DryDock y = new DryDock();
        Check.lawAt(y, "pull 9;|x");
        Check.is("still without one", -1, () -> y.count(2));
        Check.is("pulls", 2, y::pulls);
    }

    /** "SUM < SUM | SUM > SUM": neither holds where both are one. */
    private static void smallerAndGreater() {
        DryDock x = Check.dock("level 20");
        for (int n = 18; n <= 22; n++) {
            Check.law(x, "pull 1 if level < " + n + ";pull 2 if level > " + n + ";pull 4 if " + n + " < level;pull 8 if " + n
                    + " > level");
            int due = 2 + (20 < n ? 1 + 8 : 0) + (20 > n ? 2 + 4 : 0);
            Check.is("20 and " + n, due, x::pulls);
        }
    }

    /** All ways in which three ATOMS are true or not: and binds before or, not the nearest, ( ) before all. */
    private static void binding() {
        String[] truth = {"1 < 0", "0 < 1"};
        for (int i = 0; i < 8; i++) {
            boolean a = (i & 1) != 0;
            boolean b = (i & 2) != 0;
            boolean c = (i & 4) != 0;
            String x = truth[i & 1];
            String y = truth[i >> 1 & 1];
            String z = truth[i >> 2 & 1];
            holds(x + " or " + y + " and " + z, a || b && c);
            holds(x + " and " + y + " or " + z, a && b || c);
            holds("(" + x + " or " + y + ") and " + z, (a || b) && c);
            holds(x + " and (" + y + " or " + z + ")", a && (b || c));
            holds("not " + x + " or " + y, !a || b);
            holds("not " + x + " and " + y, !a && b);
            holds("not (" + x + " or " + y + ")", !(a || b));
            holds("not (" + x + " and " + y + ") or " + z, !(a && b) || c);
            holds(x + " or " + y + " or " + z, a || b || c);
            holds(x + " and " + y + " and " + z, a && b && c);
            holds("not not " + x, a);
        }
    }

    private static void holds(String condition, boolean due) {
        Check.is(condition, due ? 9 : 2, () -> Check.law(new DryDock(), "pull 7 if " + condition).pulls());
    }

    private static void basinHolds(String dock, String condition, boolean due) {
        Check.is(condition + " of " + dock, due ? 9 : 2,
                () -> Check.law(Check.dock(dock + ";pumps 2"), "pull 7 if " + condition).pulls());
    }

    /** "open: THE GATE is; dry: LEVEL is 2 at most; tide: TIDE NOW; hour: HOUR modulo 12". */
    private static void basin() {
        basinHolds("level 10", "open", true);
        basinHolds("shut", "open", false);
        basinHolds("level 0", "dry", true);
        basinHolds("level 2", "dry", true);
        basinHolds("level 3", "dry", false);
        basinHolds("level 40", "dry", false);
        basinHolds("level 0", "level < 1", true);
        basinHolds("level 40", "level > 39", true);
        basinHolds("tide 30", "tide > 29", true);
        basinHolds("tide 0", "tide < 1", true);
        basinHolds("tide 30 0;hour 12", "tide > 29", true);
        basinHolds("tide 30 0;hour 13", "tide < 1", true);
        for (int hour = 0; hour <= 26; hour++) {
            String is = "hour + 1 > " + hour % 12 + " and hour < " + (hour % 12 + 1);
            basinHolds("hour " + hour, is, true);
        }
        basinHolds("hour 11", "hour > 10", true);
        basinHolds("hour 12", "hour < 1", true);
        basinHolds("hour 999", "hour > 2 and hour < 4", true);
    }

    /** "(of no SHIP: ship 9, length, draught, work 0, not hurt)", whatever SHIPS there are. */
    private static void ofNoShip() {
        DryDock x = Check.dock("ship length 12 draught 20 work 99 at 0" + ";ship length 1 draught 9 work 9".repeat(7)
                + ";tide 10 10");
        x.hours(1);
        Check.is("ship 0 is hurt", 1, x::hurt);
        String[] hold = {"ship > 8", "ship < 10", "length < 1", "draught < 1", "work < 1", "not hurt"};
        String[] fail = {"ship < 9", "ship > 9", "length > 0", "draught > 0", "work > 0", "hurt"};
        for (int i = 0; i < hold.length; i++) {
            Check.law(x, "pull 5 if " + hold[i] + ";leak 6 if " + hold[i] + ";pull 20 if " + fail[i] + ";leak 30 if " + fail[i]);
            Check.is("pull if " + hold[i], 7, x::pulls);
            Check.is("leak if " + hold[i], 6, x::leaks);
        }
    }

    /** "of a SHIP: ship: its number; hurt: it is HURT"; "FEE of a SHIP: 3 times LENGTH, and the sum". */
    private static void ofShips() {
        DryDock x = Check.dock("ship length 12 draught 20 work 99 at 0;ship length 1 draught 1 at 20;"
                + "ship length 5 draught 6 work 7" + ";ship length 1 draught 9 work 9".repeat(5) + ";tide 10 10");
        x.hours(1);
        int[][] due = {{36, 12, 20, 99, 1}, {3, 1, 1, 0, 0}, {15, 5, 6, 7, 0}};
        String[] words = {"length", "draught", "work"};
        for (int i = 0; i < 3; i++) {
            int ship = i;
            Check.law(x, "");
            Check.is("fee without lines", due[i][0], () -> x.ship(ship, 6));
            for (int k = 0; k < 3; k++) {
                int n = due[i][k + 1];
                Check.law(x, "fee 7 if " + words[k] + " < " + (n + 1) + " and " + words[k] + " + 1 > " + n + ";fee 20 if "
                        + words[k] + " < " + n + " or " + words[k] + " > " + n);
                Check.is(words[k] + " of " + i, due[i][0] + 7, () -> x.ship(ship, 6));
            }
            Check.law(x, "fee 7 if hurt;pull 9;leak 9");
            Check.is("hurt of " + i, due[i][0] + 7 * due[i][4], () -> x.ship(ship, 6));
        }
        for (int i = 0; i < 8; i++) {
            int ship = i;
            Check.law(x, "fee 40 if ship < " + (i + 1) + " and ship + 1 > " + i);
            for (int k = 0; k < 8; k++) {
                int other = k;
                Check.is("fee of " + k + " alone", 3 * x.ship(k, 0) + (k == ship ? 40 : 0), () -> x.ship(other, 6));
            }
        }
    }

    /** "LEAKS: 1, if TIDE NOW is above LEVEL". */
    private static void leaksByTide() {
        for (int tide = 8; tide <= 12; tide++) {
            int due = tide > 10 ? 1 : 0;
            DryDock x = Check.dock("level 10;tide " + tide);
            Check.is("leaks of tide " + tide, due, x::leaks);
            x.gate(false);
            Check.is("leaks of tide " + tide + ", shut", due, x::leaks);
            Check.law(x, "leak 40;leak 2");
            Check.is("leaks of tide " + tide + ", by law", due + 42, x::leaks);
        }
    }
}
