/** What the project's tests have in common: expectations that are counted, and texts put on the tape. */
final class Check {
    private static int wrong = 0;
    private static int asked = 0;

    static final String INDEX = "IndexOutOfBoundsException";
    static final String ARGUMENT = "IllegalArgumentException";
    static final String STATE = "IllegalStateException";
    static final String ELEMENT = "NoSuchElementException";
    static final String UNSUPPORTED = "UnsupportedOperationException";

    interface Call {
        Object run() throws Exception;
    }

    private Check() {
    }

    /** The answer of a call, or the name of what it throws behind "throws." */
    static String answer(Call call) {
        try {
            return String.valueOf(call.run());
        } catch (Exception e) {
            return "throws." + e.getClass().getSimpleName();
        }
    }

    static void is(String what, Object want, Call call) {
        asked++;
        String got = answer(call);
        if (!got.equals(String.valueOf(want))) {
            wrong++;
            System.out.println(what + ": " + got + ", due is " + want);
        }
    }

    static void that(String what, boolean holds) {
        asked++;
        if (!holds) {
            wrong++;
            System.out.println(what + ": does not hold");
        }
    }

    /** Puts bytes on the tape, which is empty ahead of it. */
    static void put(DryDock x, byte[] bytes) {
        for (int from = 0; from < bytes.length; from += 20) {
            int[] n = new int[5];
            for (int i = 0; i < 20; i++) {
                int b = from + i < bytes.length ? bytes[from + i] & 255 : 0;
                n[i / 4] |= b << 24 - 8 * (i % 4);
            }
            x.feed(n[0], n[1], n[2], n[3], n[4]);
        }
        x.end(bytes.length);
    }

    static void put(DryDock x, String text) {
        put(x, text.getBytes(java.nio.charset.StandardCharsets.ISO_8859_1));
    }

    static void put(DryDock x, int... bytes) {
        byte[] row = new byte[bytes.length];
        for (int i = 0; i < bytes.length; i++) {
            row[i] = (byte) bytes[i];
        }
        put(x, row);
    }

    /** A dock by one text. */
    static DryDock dock(String text) {
        DryDock x = new DryDock();
        put(x, text);
        x.dock();
        return x;
    }

    static DryDock law(DryDock x, String text) {
        put(x, text);
        x.law();
        return x;
    }

    /** fault() behind a text of the dock (or the law) on x; the text is right where that is -1. */
    static void dockFault(DryDock x, String text, int want) {
        put(x, text);
        is("dock \"" + text + "\" throws", want == -1 ? "no" : "throws.IllegalArgumentException", () -> {
            x.dock();
            return "no";
        });
        is("fault of dock \"" + text + "\"", want, x::fault);
    }

    static void lawFault(DryDock x, String text, int want) {
        put(x, text);
        is("law \"" + text + "\" throws", want == -1 ? "no" : "throws.IllegalArgumentException", () -> {
            x.law();
            return "no";
        });
        is("fault of law \"" + text + "\"", want, x::fault);
    }

    /** All that can be asked without the tape, but for the acts remembered, as one text: alike, if two docks are. */
    static String all(DryDock x) {
        StringBuilder s = new StringBuilder();
        for (int i = 0; i <= 13; i++) {
            s.append(x.count(i)).append(i == 13 ? ";" : ",");
        }
        for (int ship = 0; ship < x.count(0); ship++) {
            for (int what = 0; what <= 12; what++) {
                s.append(x.ship(ship, what)).append(',');
            }
            s.append(x.led(ship, true)).append(',').append(x.led(ship, false)).append(';');
        }
        for (int place = 0; place < 24; place++) {
            s.append(x.place(place, 0)).append(x.place(place, 1)).append(',');
        }
        for (int hour = 0; hour < 12; hour++) {
            s.append(x.tide(hour)).append(',');
        }
        for (int ago = 0; ago < x.count(13); ago++) {
            for (int what = 0; what < 5; what++) {
                s.append(x.log(ago, what)).append(',');
            }
        }
        s.append(x.pulls()).append(',').append(x.leaks()).append(',').append(x.hurt());
        int seed = x.seed(0);
        x.seed(seed);
        return s.append(",seed ").append(seed).toString();
    }

    /** All of a dock: what can be asked, the acts behind one another, the image, and what the tape has. Uses x up. */
    static String whole(DryDock x) {
        StringBuilder s = new StringBuilder(all(x)).append(", acts ").append(x.count(14));
        int size = x.feed(0, 0, 0, 0, 0);
        x.end(size == -1 ? 400 : size - 20);
        s.append(", tape ").append(size);
        for (int i = 0; i < 13 && x.undo(); i++) {
            s.append(", ahead ").append(counts(x));
        }
        s.append(", back ").append(x.back()).append(' ').append(counts(x));
        return s.append(", dock ").append(answer(x::dock)).append(' ').append(x.fault()).append(counts(x)).toString();
    }

    private static String counts(DryDock x) {
        StringBuilder s = new StringBuilder();
        for (int i = 0; i <= 14; i++) {
            s.append(x.count(i)).append(' ');
        }
        int seed = x.seed(0);
        x.seed(seed);
        return s.append(seed).toString();
    }

    interface Maker {
        DryDock make();
    }

    interface Deed {
        Object on(DryDock x) throws Exception;
    }

    /** The call throws, and all is as on an object made alike that was not called. */
    static void refused(String what, String exception, Maker maker, Deed deed) {
        DryDock called = maker.make();
        DryDock other = maker.make();
        is(what, "throws." + exception, () -> deed.on(called));
        is(what + ": fault", other.fault(), called::fault);
        is(what + ": nothing changed", whole(other), () -> whole(called));
    }

    /** The call throws and uses the tape up; but for that, and fault(), all is as on an object that was not called. */
    static void refusedTape(String what, String exception, int fault, Maker maker, Deed deed) {
        DryDock called = maker.make();
        DryDock other = maker.make();
        other.end(0);
        is(what, "throws." + exception, () -> deed.on(called));
        is(what + ": fault", fault, called::fault);
        is(what + ": nothing changed but the tape", whole(other), () -> whole(called));
    }

    /** A text of the dock in which | stands ahead of the first wrong byte; without one it is right. */
    static void dockAt(DryDock x, String marked) {
        dockFault(x, marked.replace("|", ""), marked.indexOf('|'));
    }

    static void dockAt(String marked) {
        dockAt(new DryDock(), marked);
    }

    static void lawAt(DryDock x, String marked) {
        lawFault(x, marked.replace("|", ""), marked.indexOf('|'));
    }

    static void lawAt(String marked) {
        lawAt(new DryDock(), marked);
    }

    /** Ends the test: with exit code 1, if an answer was not the one that is due. */
    static void end(String name) {
        System.out.println(name + ": " + asked + " asked, " + wrong + " wrong");
        if (wrong != 0) {
            System.exit(1);
        }
    }
}
