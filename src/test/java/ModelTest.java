import java.lang.reflect.InvocationTargetException;
import java.lang.reflect.Method;
import java.nio.charset.StandardCharsets;
import java.util.ArrayList;
import java.util.List;
import java.util.Random;

/** Runs of up to 512 calls, made by draws from known seeds, on DryDock and on DockModel: all answers must be alike. */
public final class ModelTest {
    private static final Class<?> I = int.class;
    private static final Class<?> B = boolean.class;
    private static final int MOST_CALLS = 512;

    private final Random random;
    private final DryDock dock = new DryDock();
    private final DockModel model = new DockModel();
    private final List<String> told = new ArrayList<>();
    private int calls = 0;
    private int texts = 0;
    private static int wrong = 0;
    private static final java.util.TreeMap<String, int[]> USED = new java.util.TreeMap<>();

    private ModelTest(long seed) {
        random = new Random(seed);
    }

    public static void main(String[] args) throws Exception {
        int runs = args.length > 0 ? Integer.parseInt(args[0]) : 400;
        long from = args.length > 1 ? Long.parseLong(args[1]) : 1;
        for (long seed = from; seed < from + runs && wrong < 5; seed++) {
            new ModelTest(seed).run(seed);
        }
        if (args.length > 2) {
            USED.forEach((name, n) -> System.out.println(name + " answered " + n[0] + ", threw " + n[1]));
        }
        System.out.println("ModelTest: " + runs + " runs, " + wrong + " wrong");
        if (wrong != 0) {
            System.exit(1);
        }
    }

    private void run(long seed) throws Exception {
        if (seed % 7 != 0) {
            text(dockText(), "dock");
        }
        if (seed % 3 == 0) {
            text(lawText(), "law");
        }
        while (calls < MOST_CALLS && wrong < 5) {
            oneMore();
        }
    }

    private int below(int n) {
        return random.nextInt(n);
    }

    /** Mostly within the bounds, at times at the edge or beyond. */
    private int near(int least, int most) {
        int kind = below(12);
        if (kind == 0) {
            return least - 1;
        }
        if (kind == 1) {
            return most + 1;
        }
        if (kind == 2) {
            return below(2) == 0 ? least : most;
        }
        if (kind == 3 && below(6) == 0) {
            return random.nextInt();
        }
        return least + below(most - least + 1);
    }

    private int aShip() {
        return below(20) == 0 ? near(0, 7) : below(Math.max(1, model.count(0)));
    }

    private void oneMore() throws Exception {
        switch (below(16)) {
            case 0: case 1: case 2:
                passOrGate();
                return;
            case 3: case 4: case 5:
                goInOrOut();
                return;
            case 6: case 7:
                tell();
                return;
            case 8:
                textOrRows();
                return;
            case 9:
                keep();
                return;
            case 10: case 11:
                askShip();
                return;
            default:
                askDock();
        }
    }

    private void passOrGate() throws Exception {
        if (below(3) == 0) {
            same("gate", new Class<?>[] {B}, below(3) > 0);
        } else {
            same("hours", new Class<?>[] {I}, below(3) == 0 ? near(1, 60) : 1 + below(4));
        }
        same("count", new Class<?>[] {I}, 3);
        same("hurt", new Class<?>[] {});
    }

    /** One of the ships that stand so, if there is one that floats now, most of the time. */
    private int aShipThat(int stand) {
        int ship = aShip();
        for (int i = 0; i < 12 && below(12) > 0 && model.count(0) > 0; i++) {
            int other = below(model.count(0));
            if (model.ship(other, 3) == stand && model.ship(other, 1) <= model.count(3)) {
                ship = other;
            }
        }
        return ship;
    }

    /** Now and then an hour is told a tide by which the gate opens, so that ships come and go in most runs. */
    private void openUp() throws Exception {
        if (model.count(4) == 0 && below(3) == 0) {
            same("flow", new Class<?>[] {I, I}, model.count(9) % 12, Math.min(30, model.count(3)));
            same("gate", new Class<?>[] {B}, true);
        } else if (model.count(4) == 1 && model.count(3) < 15 && below(3) == 0) {
            same("flow", new Class<?>[] {I, I}, (model.count(9) + 1) % 12, 15 + below(16));
            same("hours", new Class<?>[] {I}, 1);
        }
    }

    private void goInOrOut() throws Exception {
        openUp();
        if (below(5) == 0) {
            same("leave", new Class<?>[] {I}, aShipThat(1));
        } else if (below(4) == 0 && model.count(0) < 8 + below(2)) {
            same("comes", new Class<?>[] {I, I, I}, below(2) == 0 ? near(1, 4) : near(1, 12), near(1, 20), near(0, 99));
        } else {
            int ship = aShipThat(0);
            int at = ship >= 0 && ship < model.count(0) && below(4) > 0 ? model.ship(ship, 11) : near(0, 23);
            same("enter", new Class<?>[] {I, I}, ship, at);
        }
    }

    private void tell() throws Exception {
        switch (below(6)) {
            case 0: same("pumps", new Class<?>[] {I}, near(0, 9)); break;
            case 1: same("hands", new Class<?>[] {I}, near(0, 9)); break;
            case 2: same("flow", new Class<?>[] {I, I}, near(0, 11), near(0, 30)); break;
            case 3: same("seed", new Class<?>[] {I}, random.nextInt()); break;
            default: same("block", new Class<?>[] {I, B}, near(0, 23), below(3) > 0 && model.count(10) < 14); break;
        }
    }

    private void keep() throws Exception {
        int kind = below(8);
        if (kind < 5) {
            same("undo", new Class<?>[] {});
        } else if (kind == 5) {
            same("image", new Class<?>[] {});
        } else if (kind == 6 && below(3) == 0) {
            same("back", new Class<?>[] {});
        }
        same("count", new Class<?>[] {I}, 14);
        all();
    }

    private void askShip() throws Exception {
        int ship = aShip();
        switch (below(8)) {
            case 0: same("beds", new Class<?>[] {I}, below(3) == 0 ? -1 : ship); break;
            case 1: same("pairs", new Class<?>[] {I}, below(3) == 0 ? -1 : ship); break;
            case 2: same("rests", new Class<?>[] {I}, ship); break;
            case 3: same("led", new Class<?>[] {I, B}, ship, below(2) == 0); break;
            default: same("ship", new Class<?>[] {I, I}, ship, near(0, 12)); break;
        }
    }

    private static final String[] PLAIN = {"pulls", "leaks", "even", "room", "load", "which", "dry", "ready", "ease",
        "cost", "first", "knocks", "knock", "waiting", "docked", "gone", "hurt", "twins", "fault"};

    private void askDock() throws Exception {
        same(PLAIN[below(PLAIN.length)], new Class<?>[] {});
        switch (below(12)) {
            case 0: same("place", new Class<?>[] {I, I}, near(0, 23), near(0, 1)); break;
            case 1: same("tide", new Class<?>[] {I}, near(0, 11)); break;
            case 2: same("odds", new Class<?>[] {I, I}, near(0, 5), near(0, 5)); break;
            case 3: same("most", new Class<?>[] {I}, near(0, 2)); break;
            case 4: same("water", new Class<?>[] {B}, below(2) == 0); break;
            case 5: same("ahead", new Class<?>[] {I, B}, near(0, 60), below(2) == 0); break;
            case 6: same("trial", new Class<?>[] {I, B}, near(0, 60), below(2) == 0); break;
            case 7: same("span", new Class<?>[] {I, B}, near(0, 60), below(2) == 0); break;
            case 8: same("log", new Class<?>[] {I, I}, near(0, 8), near(0, 4)); break;
            case 9: same("count", new Class<?>[] {I}, near(0, 14)); break;
            default: same(PLAIN[below(PLAIN.length)], new Class<?>[] {}); break;
        }
    }

    private void textOrRows() throws Exception {
        int kind = below(10);
        if (kind < 2) {
            text(below(3) == 0 ? spoiled(dockText()) : dockText(), "dock");
        } else if (kind < 5) {
            text(below(2) == 0 ? spoiled(lawText()) : lawText(), "law");
        } else if (kind < 7) {
            rows(99, 30, new String[] {"goes", "ask"}[below(2)]);
        } else {
            rows(23, 1, new String[] {"lies", "likely", "sound"}[below(3)]);
        }
        all();
    }

    /** Rows that mostly go together, as they are told of one thing. */
    private void rows(int mostFirst, int mostSecond, String name) throws Exception {
        int n = below(8) == 0 ? below(22) : below(7);
        byte[] bytes = new byte[2 * n + (below(15) == 0 ? 1 : 0)];
        int low = below(31);
        int high = low + below(31 - low);
        int late = below(12);
        for (int i = 0; i + 1 < bytes.length; i += 2) {
            int one = near(0, mostFirst);
            one = below(6) > 0 ? Math.max(0, Math.min(mostFirst, one)) : one;
            int two = mostSecond == 1 ? (one >= low % 24 && one <= low % 24 + late ? 1 : 0)
                    : low + (high - low) * Math.abs((Math.floorMod(one, 12) + late) % 12 - 6) / 6;
            bytes[i] = (byte) one;
            bytes[i + 1] = (byte) (below(12) == 0 ? near(0, mostSecond) : two);
        }
        put(bytes);
        if (name.equals("goes")) {
            same(name, new Class<?>[] {B}, below(2) == 0);
        } else {
            same(name, new Class<?>[] {});
        }
    }

    private void text(String text, String name) throws Exception {
        told.add("// " + text);
        put(text.getBytes(StandardCharsets.ISO_8859_1));
        same(name, new Class<?>[] {});
        same("fault", new Class<?>[] {});
        texts++;
    }

    private void put(byte[] bytes) throws Exception {
        if (below(30) == 0) {
            same("end", new Class<?>[] {I}, near(0, 20));
        }
        same("end", new Class<?>[] {I}, 0);
        for (int from = 0; from < bytes.length; from += 20) {
            Object[] n = new Object[5];
            for (int i = 0; i < 5; i++) {
                int four = 0;
                for (int k = from + 4 * i; k < from + 4 * i + 4; k++) {
                    four = four << 8 | (k < bytes.length ? bytes[k] & 255 : below(256));
                }
                n[i] = four;
            }
            same("feed", new Class<?>[] {I, I, I, I, I}, n);
        }
        same("end", new Class<?>[] {I}, bytes.length);
    }

    // ---- texts

    private String number(int least, int most) {
        return String.valueOf(below(25) == 0 ? near(least, most) : least + below(most - least + 1));
    }

    private String blank() {
        return below(12) == 0 ? "  " : below(12) == 0 ? "" : " ";
    }

    private String dockText() {
        StringBuilder s = new StringBuilder(below(10) == 0 ? " " : "");
        int lines = below(12) == 0 ? 12 + below(4) : below(8);
        int at = below(4);
        for (int i = 0; i < lines; i++) {
            s.append(i == 0 ? "" : below(8) == 0 ? " ; " : ";");
            int kind = below(14);
            if (kind < 5) {
                int length = 1 + below(below(2) == 0 ? 12 : 5);
                s.append("ship length ").append(length).append(" draught").append(blank()).append(number(1, 20));
                s.append(below(3) > 0 ? blank() + "work" + blank() + number(0, below(2) == 0 ? 12 : 99) : "");
                if (below(2) == 0) {
                    s.append(" at ").append(at);
                    at += length + below(4);
                }
            } else if (kind < 7) {
                s.append("tide");
                for (int n = below(12) == 0 ? 13 : 1 + below(12); n > 0; n--) {
                    s.append(" ").append(number(0, below(2) == 0 ? 12 : 30));
                }
            } else if (kind < 9) {
                s.append("blocks");
                for (int n = below(20) == 0 ? 13 : 1 + below(5); n > 0; n--) {
                    s.append(" ").append(number(0, 23));
                }
            } else {
                String[] more = {"level " + number(0, below(2) == 0 ? 12 : 40), "shut", "pumps " + number(0, 9),
                    "hands " + number(0, 9), "surge " + number(0, 5), "hour " + number(0, 999)};
                s.append(more[below(6)]);
            }
        }
        return s.length() > 380 ? s.substring(0, 380) : s.toString();
    }

    private String lawText() {
        StringBuilder s = new StringBuilder();
        int lines = below(12) == 0 ? 11 + below(3) : below(6);
        for (int i = 0; i < lines; i++) {
            s.append(i == 0 ? "" : ";").append(new String[] {"pull ", "leak ", "fee "}[below(3)]);
            s.append(number(0, below(2) == 0 ? 4 : 40));
            if (below(4) > 0) {
                s.append(" if ").append(any(below(10) == 0 ? 8 : 3));
            }
        }
        return s.length() > 380 ? s.substring(0, 380) : s.toString();
    }

    private String any(int deep) {
        StringBuilder s = new StringBuilder(atom(deep));
        while (below(3) == 0) {
            s.append(below(2) == 0 ? " or " : " and ").append(atom(deep));
        }
        return s.toString();
    }

    private String atom(int deep) {
        int kind = below(deep > 3 ? 4 : 9);
        if (kind < 2 && deep > 0) {
            return "not " + atom(deep - 1);
        }
        if (kind < 4 && deep > 0) {
            return "(" + any(deep - 1) + ")";
        }
        if (kind < 6) {
            return new String[] {"open", "dry", "hurt"}[below(3)];
        }
        return sum() + blank() + (below(2) == 0 ? "<" : ">") + blank() + sum();
    }

    private String sum() {
        String[] words = {"ship", "length", "draught", "work", "level", "tide", "hour"};
        StringBuilder s = new StringBuilder();
        do {
            s.append(s.length() == 0 ? "" : "+").append(below(2) == 0 ? number(0, below(2) == 0 ? 20 : 999) : words[below(7)]);
        } while (below(4) == 0);
        return s.toString();
    }

    private String spoiled(String text) {
        StringBuilder s = new StringBuilder(text);
        int at = below(s.length() + 1);
        switch (below(5)) {
            case 0: s.setLength(at); break;
            case 1: s.insert(at, (char) (below(4) == 0 ? below(256) : 32 + below(96))); break;
            case 2: s.insert(at, new String[] {";", "if", "not ", "(", ")", " 7", "or ", "and ", "<", "+"}[below(10)]); break;
            case 3: s.delete(at, Math.min(s.length(), at + 1 + below(5))); break;
            default: s.insert(at, " "); break;
        }
        return s.length() > 400 ? s.substring(0, 400) : s.toString();
    }

    // ---- one call on both

    private void all() throws Exception {
        for (int i = 0; i < 15; i++) {
            same("count", new Class<?>[] {I}, i);
        }
    }

    /** Behind the 512th call of an object nothing is promised, so none is made. */
    private void same(String name, Class<?>[] types, Object... args) throws Exception {
        if (calls >= MOST_CALLS) {
            return;
        }
        calls++;
        String call = name + java.util.Arrays.toString(args);
        String got = answer(dock, DryDock.class.getMethod(name, types), args);
        String want = answer(model, DockModel.class.getMethod(name, types), args);
        USED.computeIfAbsent(name, k -> new int[2])[want.startsWith("throws.") ? 1 : 0]++;
        told.add(call + " -> " + want);
        if (!got.equals(want)) {
            report(call, got, want);
        }
    }

    private void report(String call, String got, String want) {
        wrong++;
        System.out.println("-- a run of calls:");
        for (String t : told) {
            System.out.println(t);
        }
        System.out.println(call + " answered " + got + ", due is " + want);
    }

    private static String answer(Object on, Method method, Object[] args) throws Exception {
        try {
            return String.valueOf(method.invoke(on, args));
        } catch (InvocationTargetException e) {
            return "throws." + e.getCause().getClass().getSimpleName();
        }
    }
}
