/** "==== 3." of the terms, plans, guesses and games: each at its edges, and where there is none. */
public final class EdgePlansTest {
    public static void main(String[] args) {
        loadsByLevel();
        loadsByRoom();
        loadsOfSeveral();
        costs();
        costsRounded();
        firsts();
        curves();
        curveRows();
        soundings();
        soundingRows();
        knocks();
        beds();
        bedsFirst();
        pairsOfTwo();
        pairsFirst();
        oneBehindAnother();
        Check.end("EdgePlansTest");
    }

    private static void load(DryDock x, String what, int load, int which) {
        Check.is("load " + what, load, x::load);
        Check.is("which " + what, which, x::which);
    }

    /** "LOAD: WAITING SHIPS of DRAUGHT LEVEL at most". */
    private static void loadsByLevel() {
        for (int draught = 1; draught <= 20; draught++) {
            for (int level : new int[] {0, draught - 1, draught, 40}) {
                DryDock x = Check.dock("ship length 4 draught " + draught + ";level " + level);
                load(x, draught + " at " + level, draught <= level ? 12 : 0, draught <= level ? 1 : 0);
            }
        }
        load(new DryDock(), "of none", 0, 0);
        load(Check.dock("ship length 4 draught 1 at 0"), "of one docked", 0, 0);
        DryDock gone = Check.dock("ship length 4 draught 1 at 0;ship length 3 draught 1");
        gone.leave(0);
        load(gone, "beside one gone", 9, 2);
        load(Check.dock("ship length 1 draught 1" + ";ship length 1 draught 1".repeat(7)), "of eight", 24, 255);
        load(Check.dock("ship length 3 draught 1" + ";ship length 3 draught 1".repeat(7)), "of eight that fill it", 72, 255);
    }

    /** "let in together (each at free PLACES of its own)": what just fits, and what is one too long. */
    private static void loadsByRoom() {
        load(Check.dock("ship length 12 draught 1;ship length 12 draught 1"), "24 places", 72, 3);
        load(Check.dock("ship length 12 draught 1;ship length 12 draught 1;ship length 1 draught 1"), "25 places", 72, 3);
        load(Check.dock("ship length 12 draught 1;ship length 11 draught 1;ship length 2 draught 1"), "25 places", 69, 3);
        for (int at = 0; at <= 23; at++) {
            DryDock x = Check.dock("ship length 1 draught 1 at " + at + ";ship length 12 draught 1;ship length 11 draught 1");
            boolean both = at == 11 || at == 12 || at == 0 || at == 23;
            load(x, "12 and 11 around " + at, both ? 69 : 36, both ? 6 : 2);
        }
        DryDock full = Check.dock("ship length 12 draught 1 at 0;ship length 12 draught 1 at 12;ship length 1 draught 1");
        load(full, "of a full dock", 0, 0);
        DryDock rows = Check.dock("ship length 1 draught 1 at 7;ship length 1 draught 1 at 15;ship length 8 draught 1;"
                + "ship length 7 draught 1;ship length 7 draught 1");
        load(rows, "rows of 7, 7 and 8", 66, 4 + 8 + 16);
    }

    /** "so that their FEES are together the most"; "WHICH: these, as bits (of several the least". */
    private static void loadsOfSeveral() {
        load(Check.dock("ship length 12 draught 1;ship length 12 draught 1;ship length 12 draught 1"), "two of three", 72, 3);
        DryDock x = Check.dock("ship length 12 draught 1 at 0;ship length 4 draught 1;ship length 8 draught 1;ship length 12 draught 1");
        load(x, "4 and 8, or 12", 36, 2 + 4);
        Check.law(x, "fee 1 if length > 11");
        load(x, "12 has more", 37, 8);
        Check.law(x, "fee 1 if length < 12");
        load(x, "4 and 8 have more", 38, 6);
        Check.law(x, "fee 1 if length > 11;fee 1 if length < 5");
        load(x, "both have 37", 37, 6);
        Check.law(x, "fee 40 if length < 5;fee 40 if length < 5;fee 40 if length < 5");
        load(x, "4 and 8", 36 + 120, 6);
        DryDock last = Check.dock("ship length 12 draught 1 at 0;ship length 12 draught 1;ship length 8 draught 1;ship length 4 draught 1");
        load(last, "of several the least: 1, not 2 and 3", 36, 2);
    }

    private static DryDock costing(int work, int hands) {
        return Check.dock("ship length 2 draught 1 work " + work + " at 0;hands " + hands);
    }

    /** "(0 without such SHIPS; none, if HANDS is 0 and there are some)"; FIRST: "none". */
    private static void costs() {
        String[] without = {"", "ship length 2 draught 1 at 0", "ship length 2 draught 1 work 5",
            "ship length 2 draught 1 at 0;ship length 2 draught 1 work 5"};
        for (String dock : without) {
            for (int hands = 0; hands <= 9; hands += 9) {
                int n = hands;
                DryDock x = Check.dock(dock);
                x.hands(n);
                Check.is("cost without: " + dock, 0, x::cost);
                Check.is("first without: " + dock, -1, x::first);
            }
        }
        DryDock none = costing(1, 0);
        Check.is("no hands", -1, none::cost);
        Check.is("no hands: first", -1, none::first);
        DryDock gone = costing(5, 1);
        Check.is("one", 30, gone::cost);
        Check.is("first", 0, gone::first);
        gone.leave(0);
        Check.is("gone", 0, gone::cost);
        Check.is("gone: first", -1, gone::first);
        gone.hands(0);
        Check.is("gone, no hands", 0, gone::cost);
    }

    /** "is done when the WORK of it and of all ahead of it, by HANDS, rounded up, is gone by". */
    private static void costsRounded() {
        for (int hands = 1; hands <= 9; hands++) {
            for (int work = 1; work <= 99; work++) {
                DryDock x = costing(work, hands);
                int hours = work / hands + (work % hands > 0 ? 1 : 0);
                Check.is("work " + work + " of " + hands, 6 * hours, x::cost);
            }
        }
        DryDock x = Check.dock("ship length 1 draught 1 work 1 at 0;ship length 1 draught 1 work 2 at 2;hands 3");
        Check.is("together one hour each", 6, x::cost);
        Check.is("the lesser first", 0, x::first);
        DryDock most = new DryDock();
        Check.law(most, "fee 40" + ";fee 40".repeat(11));
        most.hands(1);
        for (int i = 0; i < 8; i++) {
            most.comes(3, 1, 99);
            most.enter(i, 3 * i);
        }
        Check.is("the most", 489 * 99 * 36, most::cost);
    }

    /** "FIRST: the one that is worked on first in the first such order (by the first unlike one, the lesser)". */
    private static void firsts() {
        DryDock x = Check.dock("ship length 4 draught 1 work 8 at 0;ship length 2 draught 1 work 4 at 5;ship length 1 draught 1 work 2 at 9;hands 2");
        Check.is("alike by fee and work: the lesser", 0, x::first);
        Check.is("12*4+6*6+3*7", 12 * 4 + 6 * 6 + 3 * 7, x::cost);
        DryDock y = Check.dock("ship length 1 draught 1 work 9 at 0;ship length 1 draught 1 work 9 at 5;ship length 1 draught 1 work 8 at 9;hands 1");
        Check.is("the shortest", 2, y::first);
        Check.is("3*(8+17+26)", 3 * (8 + 17 + 26), y::cost);
        DryDock z = Check.dock("ship length 1 draught 1 work 9 at 0;ship length 12 draught 1 work 9 at 5;hands 9");
        Check.is("the dearest", 1, z::first);
        DryDock same = Check.dock("ship length 1 draught 1 work 5 at 0;ship length 1 draught 1 work 4 at 5;hands 9");
        Check.is("both done in one hour: the lesser first", 0, same::first);
        Check.is("one hour each", 6, same::cost);
    }

    private static int height(int low, int high, int late, int hour) {
        return low + (high - low) * Math.abs((hour + late) % 12 - 6) / 6;
    }

    /** GOES, CURVE and ASK by going through all, hours 0 to 99. */
    private static void curve(int... rows) {
        int fit = 0;
        int first = -1;
        int[][] parts = new int[100][31];
        for (int low = 0; low <= 30; low++) {
            for (int high = low; high <= 30; high++) {
                for (int late = 0; late < 12; late++) {
                    boolean fits = true;
                    for (int i = 0; i < rows.length; i += 2) {
                        fits &= height(low, high, late, rows[i]) == rows[i + 1];
                    }
                    if (fits) {
                        fit++;
                        first = first == -1 ? 372 * low + 12 * high + late : first;
                        for (int hour = 0; hour < 100; hour++) {
                            parts[hour][height(low, high, late, hour)]++;
                        }
                    }
                }
            }
        }
        int ask = -1;
        int least = Integer.MAX_VALUE;
        for (int hour = 0; hour < 100 && fit >= 2; hour++) {
            int greatest = 0;
            for (int n : parts[hour]) {
                greatest = Math.max(greatest, n);
            }
            if (greatest < least) {
                least = greatest;
                ask = hour;
            }
        }
        curveIs(fit, first, ask, rows);
    }

    private static void curveIs(int fit, int first, int ask, int... rows) {
        String told = java.util.Arrays.toString(rows);
        DryDock x = new DryDock();
        Check.put(x, rows);
        Check.is("goes " + told, fit, () -> x.goes(false));
        Check.put(x, rows);
        Check.is("curve " + told, first, () -> x.goes(true));
        Check.put(x, rows);
        Check.is("ask " + told, ask, x::ask);
        Check.is("the tape is used up", 20, () -> x.feed(0, 0, 0, 0, 0));
    }

    /** "those that fit: how many; CURVE: the first; none"; "ASK .. of several the least; none with fewer than two". */
    private static void curves() {
        curve();
        for (int height = 0; height <= 30; height++) {
            curve(0, height);
            curve(99, height);
            curve(0, height, 6, 30 - height);
            curve(3, height, 9, height);
        }
        for (int hour = 0; hour < 12; hour++) {
            curve(hour, 30, hour + 6, 0);
            curve(hour, 30, hour + 12, 30, hour + 24, 30);
            curve(hour, 30, hour + 12, 29);
            curve(hour, 5, hour + 1, 6, hour + 2, 8);
        }
        java.util.Random random = new java.util.Random(7);
        int[] seen = new int[4];
        for (int n = 0; n < 400; n++) {
            int low = random.nextInt(31);
            int high = low + random.nextInt(31 - low);
            int late = random.nextInt(12);
            int[] rows = new int[2 * (1 + random.nextInt(4))];
            for (int i = 0; i < rows.length; i += 2) {
                rows[i] = random.nextInt(100);
                rows[i + 1] = height(low, high, late, rows[i]);
            }
            curve(rows);
            DryDock x = new DryDock();
            Check.put(x, rows);
            seen[Math.min(3, x.goes(false))]++;
        }
        Check.that("one, two and more fit in some", seen[1] > 0 && seen[2] > 0 && seen[3] > 0);
        curveIs(31 * 32 / 2 * 12, 0, 0);
    }

    /** "an hour (0 to 99) and a height (0 to 30)"; "at most 40 bytes"; "none may be told". */
    private static void curveRows() {
        Check.Deed[] calls = {x -> x.goes(false), x -> x.goes(true), DryDock::ask};
        int[][] wrong = {{0}, {99}, {0, 0, 0}, {100, 0}, {255, 0}, {128, 0}, {0, 31}, {0, 255}, {0, 128}, {0, 0, 100, 0},
            {0, 0, 0, 31}, new int[41], new int[42], new int[400], new int[39]};
        for (int[] rows : wrong) {
            for (Check.Deed call : calls) {
                Check.refusedTape("rows " + java.util.Arrays.toString(rows), Check.ARGUMENT, 6, () -> told(rows), call);
            }
        }
        int[][] right = {{}, {0, 0}, {99, 30}, {0, 30, 99, 0}, new int[38], new int[40]};
        for (int[] rows : right) {
            curve(rows);
        }
        int[] last = new int[40];
        last[39] = 1;
        curve(last);
        last[38] = 1;
        curve(last);
    }

    /** A dock with something to lose, a fault of 6, and these bytes on the tape. */
    private static DryDock told(int[] rows) {
        DryDock x = Check.dock("ship length 2 draught 3 work 4 at 5;blocks 5");
        x.image();
        x.pumps(5);
        Check.put(x, "level 41");
        Check.answer(x::dock);
        Check.put(x, rows);
        return x;
    }

    /** LIES, LIKELY and SOUND by going through all. */
    private static void sounding(int... rows) {
        int fit = 0;
        int likely = -1;
        int fewest = 2;
        int[] of = new int[24];
        for (int place = 0; place < 24; place++) {
            for (int length = 1; length <= 12 && place + length <= 24; length++) {
                int wrong = 0;
                for (int i = 0; i < rows.length; i += 2) {
                    boolean within = rows[i] >= place && rows[i] < place + length;
                    wrong += within == (rows[i + 1] == 1) ? 0 : 1;
                }
                if (wrong <= 1) {
                    fit++;
                    for (int i = place; i < place + length; i++) {
                        of[i]++;
                    }
                }
                if (wrong < fewest) {
                    fewest = wrong;
                    likely = 12 * place + length - 1;
                }
            }
        }
        int sound = -1;
        int least = Integer.MAX_VALUE;
        for (int i = 0; i < 24 && fit >= 2; i++) {
            int greater = Math.max(of[i], fit - of[i]);
            if (greater < least) {
                least = greater;
                sound = i;
            }
        }
        soundingIs(fit, likely, sound, rows);
    }

    private static void soundingIs(int fit, int likely, int sound, int... rows) {
        String told = java.util.Arrays.toString(rows);
        DryDock x = new DryDock();
        Check.put(x, rows);
        Check.is("lies " + told, fit, x::lies);
        Check.put(x, rows);
        Check.is("likely " + told, likely, x::likely);
        Check.put(x, rows);
        Check.is("sound " + told, sound, x::sound);
        Check.is("the tape is used up", 20, () -> x.feed(0, 0, 0, 0, 0));
    }

    /** "at most one row may be wrong"; LIKELY "none"; SOUND "none with fewer than two". */
    private static void soundings() {
        soundingIs(222, 0, 11);
        for (int place = 0; place < 24; place++) {
            sounding(place, 1);
            sounding(place, 0);
            sounding(place, 1, place, 1);
            sounding(place, 0, place, 0);
            sounding(place, 0, place, 1);
            sounding(place, 1, place, 1, place, 0);
            sounding(place, 1, place, 1, place, 0, place, 0);
            for (int other = place + 1; other < 24; other++) {
                sounding(place, 1, other, 1);
                sounding(place, 1, place, 1, other, 1, other, 1);
                sounding(place, 1, place, 1, other, 0, other, 0);
                sounding(place, 0, place, 0, other, 1, other, 1);
            }
        }
        soundingIs(1, 0, -1, 0, 1, 0, 1, 1, 0, 1, 0);
        soundingIs(2, 12, 0, 1, 1, 1, 1, 2, 0, 2, 0, 0, 0);
        soundingIs(0, -1, -1, 0, 1, 0, 1, 12, 1, 12, 1);
        soundingIs(1, 11, -1, 0, 1, 0, 1, 11, 1, 11, 1);
        java.util.Random random = new java.util.Random(8);
        for (int n = 0; n < 400; n++) {
            int place = random.nextInt(24);
            int length = 1 + random.nextInt(Math.min(12, 24 - place));
            int[] rows = new int[2 * random.nextInt(21)];
            for (int i = 0; i < rows.length; i += 2) {
                rows[i] = random.nextInt(24);
                boolean within = rows[i] >= place && rows[i] < place + length;
                rows[i + 1] = within == random.nextInt(30) > 0 ? 1 : 0;
            }
            sounding(rows);
        }
    }

    /** "a PLACE and whether a SHIP was touched there (1) or not (0)"; "at most 40 bytes"; "none may be told". */
    private static void soundingRows() {
        Check.Deed[] calls = {DryDock::lies, DryDock::likely, DryDock::sound};
        int[][] wrong = {{0}, {0, 0, 0}, {24, 0}, {24, 1}, {255, 0}, {128, 1}, {0, 2}, {0, 255}, {0, 128}, {0, 0, 24, 0},
            {0, 1, 0, 2}, new int[41], new int[42], new int[400], new int[39]};
        for (int[] rows : wrong) {
            for (Check.Deed call : calls) {
                Check.refusedTape("rows " + java.util.Arrays.toString(rows), Check.ARGUMENT, 6, () -> told(rows), call);
            }
        }
        int[][] right = {{}, {0, 0}, {0, 1}, {23, 0}, {23, 1}, new int[38], new int[40]};
        for (int[] rows : right) {
            sounding(rows);
        }
        int[] last = new int[40];
        last[38] = 23;
        last[39] = 1;
        sounding(last);
    }

    /** "who knocks out the last one wins": all blocks of twelve places, at both ends of the dock, by the game itself. */
    private static void knocks() {
        boolean[] wins = new boolean[1 << 12];
        int[] knock = new int[1 << 12];
        for (int set = 0; set < wins.length; set++) {
            knock[set] = -1;
            for (int move = 23; move >= 0; move--) {
                int out = (move % 2 == 0 ? 1 : 3) << move / 2;
                if ((set & out) == out && !wins[set & ~out]) {
                    wins[set] = true;
                    knock[set] = move;
                }
            }
        }
        for (int set = 0; set < wins.length; set++) {
            for (int from = 0; from <= 12; from += 12) {
                StringBuilder text = new StringBuilder(set == 0 ? "" : "blocks");
                for (int i = 0; i < 12; i++) {
                    text.append((set >> i & 1) == 1 ? " " + (from + i) : "");
                }
                DryDock x = Check.dock(text.toString());
                int due = knock[set] == -1 ? -1 : knock[set] + 2 * from;
                Check.is("knocks: " + text, wins[set], x::knocks);
                Check.is("knock: " + text, due, x::knock);
                Check.is("nothing is knocked out", Integer.bitCount(set), () -> x.count(10));
            }
        }
    }

    private static void bed(String text, int... due) {
        DryDock x = Check.dock(text);
        Check.is("beds of " + text, due[0], () -> x.beds(-1));
        for (int i = 1; i < due.length; i++) {
            int ship = i - 1;
            Check.is("bed of " + ship + " of " + text, due[i], () -> x.beds(ship));
        }
    }

    /** "each behind the one before it .. at once or later), or left out, so that LENGTHS .. are together the most". */
    private static void beds() {
        bed("", 0);
        bed("ship length 12 draught 20;ship length 12 draught 20;level 0;shut", 24, 0, 12);
        bed("ship length 12 draught 1;ship length 12 draught 1;ship length 1 draught 1", 24, 0, 12, -1);
        bed("ship length 12 draught 1;ship length 1 draught 1;ship length 12 draught 1", 24, 0, -1, 12);
        bed("ship length 1 draught 1;ship length 12 draught 1;ship length 12 draught 1", 24, -1, 0, 12);
        bed("ship length 11 draught 1;ship length 1 draught 1;ship length 12 draught 1", 24, 0, 11, 12);
        bed("ship length 12 draught 1 at 0;ship length 12 draught 1 at 12;ship length 1 draught 1", 0, -1, -1, -1);
        for (int at = 0; at <= 23; at++) {
            int big = at >= 12 ? 0 : 23 - at >= 12 ? at + 1 : -1;
            bed("ship length 1 draught 1 at " + at + ";ship length 12 draught 1", big == -1 ? 0 : 12, -1, big);
        }
        bed("ship length 1 draught 1 at 23;ship length 12 draught 1;ship length 11 draught 1", 23, -1, 0, 12);
        bed("ship length 1 draught 1 at 11;ship length 12 draught 1;ship length 11 draught 1", 12, -1, 12, -1);
        bed("ship length 1 draught 1 at 11;ship length 11 draught 1;ship length 12 draught 1", 23, -1, 0, 12);
        for (int ship : new int[] {-2, 1, 8, Integer.MIN_VALUE, Integer.MAX_VALUE}) {
            Check.refused("bed of " + ship, Check.INDEX, () -> Check.dock("ship length 1 draught 1"), x -> x.beds(ship));
            Check.refused("pair of " + ship, Check.INDEX, () -> Check.dock("ship length 1 draught 1"), x -> x.pairs(ship));
        }
        DryDock gone = Check.dock("ship length 3 draught 1 at 0;ship length 2 draught 1");
        gone.leave(0);
        Check.is("one gone has none", -1, () -> gone.beds(0));
        Check.is("the other has its place", 0, () -> gone.beds(1));
        Check.is("its length", 2, () -> gone.beds(-1));
    }

    /** "in the first such way (SHIP by SHIP, the PLACES by numbers, left out behind all)". */
    private static void bedsFirst() {
        bed("ship length 12 draught 1;ship length 12 draught 1;ship length 12 draught 1", 24, 0, 12, -1);
        bed("ship length 8 draught 1;ship length 8 draught 1;ship length 8 draught 1;ship length 8 draught 1", 24, 0, 8, 16, -1);
        bed("ship length 4 draught 1 at 0;ship length 6 draught 1 at 10;ship length 6 draught 1;ship length 6 draught 1", 12,
                -1, -1, 4, 16);
        bed("ship length 6 draught 1 at 10;ship length 5 draught 1;ship length 5 draught 1;ship length 8 draught 1", 18,
                -1, 0, 5, 16);
        bed("ship length 12 draught 1 at 0;ship length 6 draught 1;ship length 12 draught 1;ship length 6 draught 1", 12,
                -1, 12, -1, 18);
    }

    /** "LENGTHS of both together 12 at most". */
    private static void pairsOfTwo() {
        for (int one = 1; one <= 12; one++) {
            for (int two = 1; two <= 12; two++) {
                DryDock x = Check.dock("ship length " + one + " draught 1 work 3;ship length " + two + " draught 1 work 4 at 0");
                boolean pair = one + two <= 12;
                Check.is("pair of " + one + " and " + two, pair ? 7 : 0, () -> x.pairs(-1));
                Check.is("of 0", pair ? 1 : -1, () -> x.pairs(0));
                Check.is("of 1", pair ? 0 : -1, () -> x.pairs(1));
            }
        }
        Check.is("of none", 0, () -> new DryDock().pairs(-1));
        Check.is("of one", 0, () -> Check.dock("ship length 1 draught 1 work 9").pairs(-1));
        DryDock gone = Check.dock("ship length 1 draught 1 work 9 at 0;ship length 1 draught 1 work 9");
        Check.is("both", 18, () -> gone.pairs(-1));
        gone.leave(0);
        Check.is("one gone", 0, () -> gone.pairs(-1));
        Check.is("one gone", -1, () -> gone.pairs(0));
        Check.is("the other", -1, () -> gone.pairs(1));
        DryDock eight = Check.dock("ship length 6 draught 1 work 99" + ";ship length 6 draught 1 work 99".repeat(7));
        Check.is("eight", 8 * 99, () -> eight.pairs(-1));
        for (int i = 0; i < 8; i++) {
            int ship = i;
            Check.is("pair of " + i, ship ^ 1, () -> eight.pairs(ship));
        }
    }

    /** "in the first such way (SHIP by SHIP, none being the least, then the others)". */
    private static void pairsFirst() {
        DryDock idle = Check.dock("ship length 1 draught 1;ship length 1 draught 1");
        Check.is("without work: none is the least", -1, () -> idle.pairs(0));
        DryDock three = Check.dock("ship length 1 draught 1 work 4" + ";ship length 1 draught 1 work 4".repeat(2));
        int[] due = {-1, 2, 1};
        for (int i = 0; i < 3; i++) {
            int ship = i;
            Check.is("three alike: " + i, due[i], () -> three.pairs(ship));
        }
        DryDock rest = Check.dock("ship length 1 draught 1 work 5;ship length 1 draught 1 work 5;ship length 1 draught 1 work 1");
        int[] mates = {1, 0, -1};
        for (int i = 0; i < 3; i++) {
            int ship = i;
            Check.is("each in one pair at most: " + i, mates[i], () -> rest.pairs(ship));
        }
        DryDock zero = Check.dock("ship length 1 draught 1 work 0;ship length 1 draught 1 work 5;ship length 1 draught 1 work 0");
        int[] with = {-1, 2, 1};
        for (int i = 0; i < 3; i++) {
            int ship = i;
            Check.is("one of work: " + i, with[i], () -> zero.pairs(ship));
        }
    }

    /** What one call worked with does not tell in the next one, whichever that is. */
    private static void oneBehindAnother() {
        Check.Deed[] calls = {DryDock::load, DryDock::which, DryDock::cost, DryDock::first, x -> x.beds(-1), x -> x.beds(2),
            x -> x.pairs(-1), x -> x.pairs(1)};
        String[] docks = {
            "ship length 5 draught 1 work 3 at 2;ship length 4 draught 1 work 2 at 9;ship length 9 draught 1 work 8;"
                + "ship length 2 draught 1 work 1;ship length 3 draught 1 work 5;hands 1",
            "ship length 5 draught 1 work 3;ship length 4 draught 1 work 2;ship length 9 draught 1 work 8;"
                + "ship length 2 draught 1 work 1 at 0;ship length 3 draught 1 work 5 at 20;hands 1",
            "ship length 5 draught 1 work 3", "ship length 5 draught 1 work 3 at 4", ""};
        for (String dock : docks) {
            for (Check.Deed one : calls) {
                for (Check.Deed two : calls) {
                    DryDock fresh = Check.dock(dock);
                    DryDock used = Check.dock(dock);
                    Check.answer(() -> one.on(used));
                    Check.is("one call behind another", Check.answer(() -> two.on(fresh)), () -> two.on(used));
                }
            }
        }
        DryDock rows = Check.dock("ship length 1 draught 1 at 11;ship length 12 draught 1;ship length 12 draught 1;ship length 11 draught 1");
        load(rows, "rows of 11 and 12", 69, 2 + 8);
        rows.leave(0);
        load(rows, "one row of 24", 72, 2 + 4);
        DryDock fewer = new DryDock();
        for (int i = 0; i < 8; i++) {
            fewer.comes(3, 1, 9);
        }
        bedsAndPairs(fewer, 24, 72);
        for (int i = 7; i >= 1; i--) {
            fewer.undo();
            bedsAndPairs(fewer, 3 * i, i / 2 * 18);
        }
    }

    private static void bedsAndPairs(DryDock x, int beds, int pairs) {
        Check.is("beds", beds, () -> x.beds(-1));
        Check.is("pairs", pairs, () -> x.pairs(-1));
        for (int i = 0; i < x.count(0); i++) {
            int ship = i;
            Check.is("bed of " + i, 3 * ship, () -> x.beds(ship));
        }
    }
}
