import java.util.ArrayList;
import java.util.HashMap;
import java.util.HashSet;
import java.util.List;
import java.util.Map;
import java.util.NoSuchElementException;

/**
 * The document once more, in another way: token lists, trees and brute force in place of cursors, codes and tables.
 * Same face as DryDock, so that a test can make the same calls on both.
 */
public final class DockModel {
    static final class Ship implements Cloneable {
        int length;
        int draught;
        int work;
        int stand;
        int place = -1;
        boolean hurt;

        Ship copy() {
            try {
                return (Ship) clone();
            } catch (CloneNotSupportedException e) {
                throw new AssertionError(e);
            }
        }
    }

    static final class World {
        List<Ship> ships = new ArrayList<>();
        boolean[] blocks = new boolean[24];
        int[] tide = {10, 10, 10, 10, 10, 10, 10, 10, 10, 10, 10, 10};
        int level = 10;
        boolean open = true;
        int pumps = 2;
        int hands = 3;
        int surge = 0;
        int purse = 0;
        int hour = 0;
        int seed = 1;
        int texts = 0;
        List<Line> law = null;
        List<int[]> log = new ArrayList<>();

        World copy() {
            World w = new World();
            for (Ship s : ships) {
                w.ships.add(s.copy());
            }
            w.blocks = blocks.clone();
            w.tide = tide.clone();
            w.level = level;
            w.open = open;
            w.pumps = pumps;
            w.hands = hands;
            w.surge = surge;
            w.purse = purse;
            w.hour = hour;
            w.seed = seed;
            w.texts = texts;
            w.law = law;
            w.log = new ArrayList<>(log);
            return w;
        }

        int tideNow() {
            return tide[hour % 12];
        }

        int on(int place) {
            for (int i = 0; i < ships.size(); i++) {
                Ship s = ships.get(i);
                if (s.stand == 1) {
                    for (int p = 0; p < s.length; p++) {
                        if (s.place + p == place) {
                            return i;
                        }
                    }
                }
            }
            return -1;
        }

        boolean free(int place, int length) {
            for (int p = place; p < place + length; p++) {
                if (p > 23 || on(p) != -1) {
                    return false;
                }
            }
            return true;
        }

        boolean borne(Ship s, boolean[] with) {
            if (s.stand != 1) {
                return false;
            }
            if (s.length < 3) {
                boolean any = false;
                for (int p = s.place; p < s.place + s.length; p++) {
                    any |= with[p];
                }
                return any;
            }
            for (int p = s.place; p + 2 < s.place + s.length; p++) {
                if (!with[p] && !with[p + 1] && !with[p + 2]) {
                    return false;
                }
            }
            return true;
        }

        int sum(String kind, int ship) {
            int n = 0;
            if (law != null) {
                for (Line l : law) {
                    if (l.kind.equals(kind) && (l.when == null || l.when.value(this, ship) != 0)) {
                        n += l.n;
                    }
                }
            }
            return n;
        }

        int fee(int ship) {
            return 3 * ships.get(ship).length + sum("fee", ship);
        }

        int pulls() {
            return pumps + sum("pull", -1);
        }

        int leaks() {
            return (tideNow() > level ? 1 : 0) + sum("leak", -1);
        }

        void note(int ship, int kind, int place) {
            log.add(new int[] {hour, ship, kind, place, level});
            if (log.size() > 60) {
                log.remove(0);
            }
        }

        int anHour(boolean draws) {
            hour = hour == 9999 ? 9999 : hour + 1;
            if (open) {
                level = tideNow();
                if (draws) {
                    seed = 1103515245 * seed + 12345;
                    level += ((seed >> 16) & 0x7fff) % (surge + 1);
                }
            } else {
                int more = leaks();
                int less = pulls();
                level = level + more - less;
                level = level < 0 ? 0 : level > 40 ? 40 : level;
            }
            for (int i = 0; i < ships.size(); i++) {
                Ship s = ships.get(i);
                if (s.stand == 1 && s.draught > level && !borne(s, blocks) && !s.hurt) {
                    s.hurt = true;
                    s.work = s.work + 5 > 99 ? 99 : s.work + 5;
                    note(i, 2, s.place);
                }
            }
            int done = 0;
            if (level <= 2) {
                int left = hands;
                for (int i = 0; i < ships.size(); i++) {
                    Ship s = ships.get(i);
                    while (s.stand == 1 && s.draught > level && s.work > 0 && left > 0) {
                        s.work--;
                        left--;
                        done++;
                        if (s.work == 0) {
                            note(i, 3, s.place);
                        }
                    }
                }
            }
            return done;
        }

        int allWork() {
            int n = 0;
            for (Ship s : ships) {
                n += s.work;
            }
            return n;
        }
    }

    // ---- the law as a tree

    static final class Line {
        String kind;
        int n;
        Node when;
    }

    static final class Node {
        final String op;
        final int number;
        final List<Node> parts = new ArrayList<>();

        Node(String op, int number) {
            this.op = op;
            this.number = number;
        }

        int value(World w, int ship) {
            Ship s = ship < 0 ? null : w.ships.get(ship);
            switch (op) {
                case "number": return number;
                case "ship": return s == null ? 9 : ship;
                case "length": return s == null ? 0 : s.length;
                case "draught": return s == null ? 0 : s.draught;
                case "work": return s == null ? 0 : s.work;
                case "level": return w.level;
                case "tide": return w.tideNow();
                case "hour": return w.hour % 12;
                case "open": return w.open ? 1 : 0;
                case "dry": return w.level <= 2 ? 1 : 0;
                case "hurt": return s != null && s.hurt ? 1 : 0;
                case "not": return parts.get(0).value(w, ship) == 0 ? 1 : 0;
                case "<": return parts.get(0).value(w, ship) < parts.get(1).value(w, ship) ? 1 : 0;
                case ">": return parts.get(0).value(w, ship) > parts.get(1).value(w, ship) ? 1 : 0;
                default: return many(w, ship);
            }
        }

        private int many(World w, int ship) {
            int sum = 0;
            int held = 0;
            for (Node p : parts) {
                int v = p.value(w, ship);
                sum += v;
                held += v != 0 ? 1 : 0;
            }
            return op.equals("+") ? sum : op.equals("or") ? (held > 0 ? 1 : 0) : held == parts.size() ? 1 : 0;
        }
    }

    // ---- texts as lists of tokens

    @SuppressWarnings("serial")
    static final class Wrong extends Exception {
        final int at;

        Wrong(int at) {
            this.at = at;
        }
    }

    static final class Tokens {
        final List<String> words = new ArrayList<>();
        final List<Integer> begins = new ArrayList<>();
        int next = 0;
        int deep = 0;

        Tokens(List<Integer> bytes) {
            StringBuilder text = new StringBuilder();
            for (int b : bytes) {
                text.append((char) b);
            }
            java.util.regex.Matcher m =
                    java.util.regex.Pattern.compile("[a-z]+|[0-9]+|[^ ]", java.util.regex.Pattern.DOTALL).matcher(text);
            while (m.find()) {
                words.add(m.group());
                begins.add(m.start());
            }
            words.add("");
            begins.add(text.length());
        }

        String see() {
            return words.get(next);
        }

        boolean ended() {
            return next == words.size() - 1;
        }

        Wrong wrong() {
            return new Wrong(begins.get(next));
        }

        boolean take(String word) {
            if (!ended() && see().equals(word)) {
                next++;
                return true;
            }
            return false;
        }

        void must(String word) throws Wrong {
            if (!take(word)) {
                throw wrong();
            }
        }

        boolean digits() {
            return see().matches("[0-9]+");
        }

        int number(int least, int most) throws Wrong {
            if (!see().matches("[0-9]{1,3}") || Integer.parseInt(see()) < least || Integer.parseInt(see()) > most) {
                throw wrong();
            }
            return Integer.parseInt(words.get(next++));
        }
    }

    private static void dockLine(Tokens t, World w) throws Wrong {
        switch (t.see()) {
            case "ship":
                shipLine(t, w);
                return;
            case "tide":
                t.next++;
                for (int i = 0; i == 0 || t.digits(); i++) {
                    if (i == 12) {
                        throw t.wrong();
                    }
                    w.tide[i] = t.number(0, 30);
                }
                return;
            case "blocks":
                t.next++;
                for (int i = 0; i == 0 || t.digits(); i++) {
                    if (i == 12) {
                        throw t.wrong();
                    }
                    w.blocks[t.number(0, 23)] = true;
                }
                return;
            case "level":
                t.next++;
                w.level = t.number(0, 40);
                return;
            case "shut":
                t.next++;
                w.open = false;
                return;
            case "pumps":
                t.next++;
                w.pumps = t.number(0, 9);
                return;
            case "hands":
                t.next++;
                w.hands = t.number(0, 9);
                return;
            case "surge":
                t.next++;
                w.surge = t.number(0, 5);
                return;
            case "hour":
                t.next++;
                w.hour = t.number(0, 999);
                return;
            default:
                throw t.wrong();
        }
    }

    private static void shipLine(Tokens t, World w) throws Wrong {
        if (w.ships.size() == 8) {
            throw t.wrong();
        }
        t.next++;
        Ship s = new Ship();
        t.must("length");
        s.length = t.number(1, 12);
        t.must("draught");
        s.draught = t.number(1, 20);
        if (t.take("work")) {
            s.work = t.number(0, 99);
        }
        if (t.take("at")) {
            Wrong there = t.wrong();
            int place = t.number(0, 23);
            if (!w.free(place, s.length)) {
                throw there;
            }
            s.place = place;
            s.stand = 1;
        }
        w.ships.add(s);
    }

    private static Line lawLine(Tokens t) throws Wrong {
        Line l = new Line();
        if (!t.see().equals("pull") && !t.see().equals("leak") && !t.see().equals("fee")) {
            throw t.wrong();
        }
        l.kind = t.words.get(t.next++);
        l.n = t.number(0, 40);
        if (t.take("if")) {
            l.when = any(t);
        }
        return l;
    }

    private static Node any(Tokens t) throws Wrong {
        Node n = new Node("or", 0);
        do {
            Node all = new Node("and", 0);
            do {
                all.parts.add(atom(t));
            } while (t.take("and"));
            n.parts.add(all);
        } while (t.take("or"));
        return n;
    }

    private static Node atom(Tokens t) throws Wrong {
        String see = t.see();
        if ((see.equals("not") || see.equals("(")) && t.deep == 6) {
            throw t.wrong();
        }
        Node n;
        if (t.take("not")) {
            t.deep++;
            n = new Node("not", 0);
            n.parts.add(atom(t));
            t.deep--;
        } else if (t.take("(")) {
            t.deep++;
            n = any(t);
            t.must(")");
            t.deep--;
        } else if (see.equals("open") || see.equals("dry") || see.equals("hurt")) {
            t.next++;
            n = new Node(see, 0);
        } else {
            Node left = sum(t);
            if (!t.see().equals("<") && !t.see().equals(">")) {
                throw t.wrong();
            }
            n = new Node(t.words.get(t.next++), 0);
            n.parts.add(left);
            n.parts.add(sum(t));
        }
        return n;
    }

    private static Node sum(Tokens t) throws Wrong {
        Node n = new Node("+", 0);
        do {
            if (t.digits()) {
                n.parts.add(new Node("number", t.number(0, 999)));
            } else if (t.see().matches("ship|length|draught|work|level|tide|hour")) {
                n.parts.add(new Node(t.words.get(t.next++), 0));
            } else {
                throw t.wrong();
            }
        } while (t.take("+"));
        return n;
    }

    // ---- the object

    private World now = new World();
    private World kept = null;
    private final List<World> past = new ArrayList<>();
    private final List<Integer> tape = new ArrayList<>();
    private int fault = -1;

    public DockModel() {
    }

    private void act() {
        past.add(now.copy());
        if (past.size() > 12) {
            past.remove(0);
        }
    }

    private Ship at(int ship) {
        if (ship < 0 || ship >= now.ships.size()) {
            throw new IndexOutOfBoundsException();
        }
        return now.ships.get(ship);
    }

    private static void index(int n, int most) {
        if (n < 0 || n > most) {
            throw new IndexOutOfBoundsException();
        }
    }

    private static void within(int n, int least, int most) {
        if (n < least || n > most) {
            throw new IllegalArgumentException();
        }
    }

    private List<Integer> useUp() {
        List<Integer> bytes = new ArrayList<>(tape);
        tape.clear();
        return bytes;
    }

    public int feed(int a, int b, int c, int d, int e) {
        if (tape.size() > 380) {
            return -1;
        }
        for (int n : new int[] {a, b, c, d, e}) {
            for (byte one : java.nio.ByteBuffer.allocate(4).putInt(n).array()) {
                tape.add(one & 255);
            }
        }
        return tape.size();
    }

    public boolean end(int n) {
        if (n < 0 || tape.size() < n) {
            return false;
        }
        while (tape.size() > n) {
            tape.remove(tape.size() - 1);
        }
        return true;
    }

    public int dock() {
        World w = now.copy();
        Tokens t = new Tokens(useUp());
        fault = -1;
        try {
            for (int lines = 0; !t.ended(); lines++) {
                if (lines == 14) {
                    throw t.wrong();
                }
                dockLine(t, w);
                if (!t.ended()) {
                    t.must(";");
                    if (t.ended()) {
                        throw t.wrong();
                    }
                }
            }
        } catch (Wrong e) {
            fault = e.at;
            throw new IllegalArgumentException();
        }
        if (now.texts == 12) {
            throw new UnsupportedOperationException();
        }
        now = w;
        past.clear();
        return ++now.texts;
    }

    public int law() {
        List<Line> lines = new ArrayList<>();
        Tokens t = new Tokens(useUp());
        fault = -1;
        try {
            while (!t.ended()) {
                if (lines.size() == 12) {
                    throw t.wrong();
                }
                lines.add(lawLine(t));
                if (!t.ended()) {
                    t.must(";");
                    if (t.ended()) {
                        throw t.wrong();
                    }
                }
            }
        } catch (Wrong e) {
            fault = e.at;
            throw new IllegalArgumentException();
        }
        now.law = lines;
        past.clear();
        return lines.size();
    }

    public int fault() {
        return fault;
    }

    public int ship(int ship, int what) {
        Ship s = at(ship);
        boolean lies = s.stand == 1;
        switch (what) {
            case 0: return s.length;
            case 1: return s.draught;
            case 2: return s.work;
            case 3: return s.stand;
            case 4: return lies ? s.place : -1;
            case 5: return s.hurt ? 1 : 0;
            case 6: return now.fee(ship);
            case 7: return lies && s.draught <= now.level ? 1 : 0;
            case 8: return now.borne(s, now.blocks) ? 1 : 0;
            case 9: return lies ? wedges(s) : -1;
            case 10:
                for (int n = 0; n <= 60; n++) {
                    if (now.tide[(now.hour + n) % 12] >= s.draught) {
                        return n;
                    }
                }
                return -1;
            case 11:
                for (int p = 0; p < 24 && s.stand == 0; p++) {
                    if (now.free(p, s.length)) {
                        return p;
                    }
                }
                return -1;
            case 12:
                int sum = 0;
                for (Ship o : now.ships) {
                    sum += o.stand == 2 ? 0 : o.work;
                }
                return s.stand == 2 || sum == 0 ? 0 : 100 * s.work / sum;
            default: throw new NoSuchElementException();
        }
    }

    private int wedges(Ship s) {
        int fewest = 99;
        for (int set = 0; set < 1 << s.length; set++) {
            boolean[] with = now.blocks.clone();
            for (int i = 0; i < s.length; i++) {
                with[s.place + i] |= (set >> i & 1) == 1;
            }
            if (Integer.bitCount(set) < fewest && now.borne(s, with)) {
                fewest = Integer.bitCount(set);
            }
        }
        return fewest;
    }

    public int place(int place, int what) {
        index(place, 23);
        if (what != 0 && what != 1) {
            throw new NoSuchElementException();
        }
        return what == 1 ? now.on(place) : now.blocks[place] ? 1 : 0;
    }

    public int tide(int hour) {
        index(hour, 11);
        return now.tide[hour];
    }

    public int hours(int n) {
        within(n, 1, 60);
        act();
        int done = 0;
        for (int i = 0; i < n; i++) {
            done += now.anHour(true);
        }
        return done;
    }

    public boolean gate(boolean open) {
        if (!now.open && open && !even()) {
            throw new IllegalStateException();
        }
        act();
        boolean was = now.open;
        now.open = open;
        return was != open;
    }

    public int enter(int ship, int place) {
        Ship s = at(ship);
        index(place, 23);
        if (!now.open || s.stand != 0 || s.draught > now.level || !now.free(place, s.length)) {
            throw new IllegalStateException();
        }
        act();
        s.stand = 1;
        s.place = place;
        now.note(ship, 0, place);
        return count(11);
    }

    public int leave(int ship) {
        Ship s = at(ship);
        if (!now.open || s.stand != 1 || s.draught > now.level) {
            throw new IllegalStateException();
        }
        act();
        int fee = now.fee(ship);
        now.note(ship, 1, s.place);
        s.stand = 2;
        s.place = -1;
        now.purse = now.purse + fee > 9999 ? 9999 : now.purse + fee;
        return fee;
    }

    public int comes(int length, int draught, int work) {
        within(length, 1, 12);
        within(draught, 1, 20);
        within(work, 0, 99);
        if (now.ships.size() == 8) {
            throw new IllegalStateException();
        }
        act();
        Ship s = new Ship();
        s.length = length;
        s.draught = draught;
        s.work = work;
        now.ships.add(s);
        return now.ships.size() - 1;
    }

    public boolean block(int place, boolean is) {
        index(place, 23);
        act();
        boolean was = now.blocks[place];
        now.blocks[place] = is;
        return was != is;
    }

    public int pumps(int n) {
        within(n, 0, 9);
        act();
        int was = now.pumps;
        now.pumps = n;
        return was;
    }

    public int hands(int n) {
        within(n, 0, 9);
        act();
        int was = now.hands;
        now.hands = n;
        return was;
    }

    public int flow(int hour, int n) {
        index(hour, 11);
        within(n, 0, 30);
        act();
        int was = now.tide[hour];
        now.tide[hour] = n;
        return was;
    }

    public int pulls() {
        return now.pulls();
    }

    public int leaks() {
        return now.leaks();
    }

    public boolean even() {
        int d = now.level - now.tideNow();
        return d >= -1 && d <= 1;
    }

    public int room() {
        for (int n = 24; n > 0; n--) {
            for (int p = 0; p + n <= 24; p++) {
                if (now.free(p, n)) {
                    return n;
                }
            }
        }
        return 0;
    }

    // ---- by brute force

    private boolean fitTogether(List<Integer> set, int i, int taken, HashSet<Long> failed) {
        if (i == set.size()) {
            return true;
        }
        if (!failed.add((long) i << 32 | taken)) {
            return false;
        }
        int length = now.ships.get(set.get(i)).length;
        for (int p = 0; p + length <= 24; p++) {
            int bits = (1 << length) - 1 << p;
            if ((taken & bits) == 0 && fitTogether(set, i + 1, taken | bits, failed)) {
                return true;
            }
        }
        return false;
    }

    private int[] loads() {
        int[] best = {0, 0};
        int taken = 0;
        int free = 0;
        for (int p = 0; p < 24; p++) {
            taken |= now.on(p) != -1 ? 1 << p : 0;
            free += now.on(p) == -1 ? 1 : 0;
        }
        for (int set = 1; set < 1 << now.ships.size(); set++) {
            List<Integer> in = new ArrayList<>();
            int fees = 0;
            int lengths = 0;
            boolean may = true;
            for (int i = 0; i < now.ships.size(); i++) {
                if ((set >> i & 1) == 1) {
                    in.add(i);
                    fees += now.fee(i);
                    lengths += now.ships.get(i).length;
                    may &= now.ships.get(i).stand == 0 && now.ships.get(i).draught <= now.level;
                }
            }
            if (may && fees > best[0] && lengths <= free && fitTogether(in, 0, taken, new HashSet<>())) {
                best = new int[] {fees, set};
            }
        }
        return best;
    }

    public int load() {
        return loads()[0];
    }

    public int which() {
        return loads()[1];
    }

    private World in(int n) {
        World w = now.copy();
        for (int i = 0; i < n; i++) {
            w.anHour(false);
        }
        return w;
    }

    public int dry() {
        for (int n = 0; n <= 60; n++) {
            if (in(n).level <= 2) {
                return n;
            }
        }
        return -1;
    }

    public int ready() {
        for (int n = 0; n <= 60; n++) {
            boolean none = true;
            for (Ship s : in(n).ships) {
                none &= s.stand != 1 || s.work == 0;
            }
            if (none) {
                return n;
            }
        }
        return -1;
    }

    public int ease() {
        for (int n = 0; n <= 60; n++) {
            World w = in(n);
            if (w.open || Math.abs(w.level - w.tideNow()) <= 1) {
                return n;
            }
        }
        return -1;
    }

    private void orders(List<Integer> order, List<Integer> left, int[] best) {
        if (left.isEmpty()) {
            int cost = 0;
            int work = 0;
            for (int i : order) {
                work += now.ships.get(i).work;
                int hours = 0;
                while (hours * now.hands < work) {
                    hours++;
                }
                cost += now.fee(i) * hours;
            }
            if (best[0] == -1 || cost < best[0]) {
                best[0] = cost;
                best[1] = order.get(0);
            }
            return;
        }
        for (int i = 0; i < left.size(); i++) {
            int ship = left.remove(i);
            order.add(ship);
            orders(order, left, best);
            order.remove(order.size() - 1);
            left.add(i, ship);
        }
    }

    private int[] costs() {
        List<Integer> left = new ArrayList<>();
        for (int i = 0; i < now.ships.size(); i++) {
            if (now.ships.get(i).stand == 1 && now.ships.get(i).work > 0) {
                left.add(i);
            }
        }
        int[] best = {-1, -1};
        if (left.isEmpty()) {
            best[0] = 0;
        } else if (now.hands > 0) {
            orders(new ArrayList<>(), left, best);
        }
        return best;
    }

    public int cost() {
        return costs()[0];
    }

    public int first() {
        return costs()[1];
    }

    private static int height(int curve, int hour) {
        int low = curve / 372;
        int high = curve % 372 / 12;
        int d = (hour + curve % 12) % 12 - 6;
        return low + (int) Math.floor((high - low) * Math.abs(d) / 6.0 + 1e-9);
    }

    private List<Integer> curves() {
        List<Integer> rows = useUp();
        if (rows.size() > 40 || rows.size() % 2 == 1) {
            throw new IllegalArgumentException();
        }
        for (int i = 0; i < rows.size(); i += 2) {
            within(rows.get(i), 0, 99);
            within(rows.get(i + 1), 0, 30);
        }
        List<Integer> fit = new ArrayList<>();
        for (int curve = 0; curve < 31 * 372; curve++) {
            boolean fits = curve / 372 <= curve % 372 / 12;
            for (int i = 0; fits && i < rows.size(); i += 2) {
                fits = height(curve, rows.get(i)) == rows.get(i + 1);
            }
            if (fits) {
                fit.add(curve);
            }
        }
        return fit;
    }

    public int goes(boolean first) {
        List<Integer> fit = curves();
        return !first ? fit.size() : fit.isEmpty() ? -1 : fit.get(0);
    }

    public int ask() {
        List<Integer> fit = curves();
        int best = -1;
        int least = 0;
        for (int hour = 0; hour < 100 && fit.size() >= 2; hour++) {
            Map<Integer, Integer> parts = new HashMap<>();
            int greatest = 0;
            for (int curve : fit) {
                greatest = Math.max(greatest, parts.merge(height(curve, hour), 1, Integer::sum));
            }
            if (best == -1 || greatest < least) {
                best = hour;
                least = greatest;
            }
        }
        return best;
    }

    private static boolean covers(int lie, int place) {
        return place >= lie / 12 && place <= lie / 12 + lie % 12;
    }

    private List<List<Integer>> lying() {
        List<Integer> rows = useUp();
        if (rows.size() > 40 || rows.size() % 2 == 1) {
            throw new IllegalArgumentException();
        }
        for (int i = 0; i < rows.size(); i += 2) {
            within(rows.get(i), 0, 23);
            within(rows.get(i + 1), 0, 1);
        }
        List<List<Integer>> byWrong = List.of(new ArrayList<>(), new ArrayList<>());
        for (int lie = 0; lie < 24 * 12; lie++) {
            int wrong = 0;
            for (int i = 0; i < rows.size(); i += 2) {
                wrong += covers(lie, rows.get(i)) != (rows.get(i + 1) == 1) ? 1 : 0;
            }
            if (wrong < 2 && lie / 12 + lie % 12 < 24) {
                byWrong.get(wrong).add(lie);
            }
        }
        return byWrong;
    }

    public int lies() {
        List<List<Integer>> fit = lying();
        return fit.get(0).size() + fit.get(1).size();
    }

    public int likely() {
        for (List<Integer> fit : lying()) {
            if (!fit.isEmpty()) {
                return fit.get(0);
            }
        }
        return -1;
    }

    public int sound() {
        List<Integer> fit = new ArrayList<>();
        for (List<Integer> some : lying()) {
            fit.addAll(some);
        }
        int best = -1;
        int least = 0;
        for (int p = 0; p < 24 && fit.size() >= 2; p++) {
            int in = 0;
            int out = 0;
            for (int lie : fit) {
                if (covers(lie, p)) {
                    in++;
                } else {
                    out++;
                }
            }
            if (best == -1 || Math.max(in, out) < least) {
                best = p;
                least = Math.max(in, out);
            }
        }
        return best;
    }

    private final Map<Integer, Integer> knockOf = new HashMap<>();

    /** The first winning knock of a set of blocks, or -1. */
    private int knocked(int blocks) {
        Integer known = knockOf.get(blocks);
        if (known != null) {
            return known;
        }
        int found = -1;
        for (int k = 0; k < 48 && found == -1; k++) {
            int out = k % 2 == 0 ? 1 << k / 2 : 3 << k / 2;
            if ((blocks & out) == out && knocked(blocks ^ out) == -1) {
                found = k;
            }
        }
        knockOf.put(blocks, found);
        return found;
    }

    private int blockBits() {
        int bits = 0;
        for (int p = 0; p < 24; p++) {
            bits |= now.blocks[p] ? 1 << p : 0;
        }
        return bits;
    }

    public boolean knocks() {
        return knocked(blockBits()) != -1;
    }

    public int knock() {
        return knocked(blockBits());
    }

    private void bedWays(int ship, int from, int sum, int[] way, int[][] best) {
        if (ship == now.ships.size()) {
            if (best[0] == null || sum > best[0][8]) {
                way[8] = sum;
                best[0] = way.clone();
            }
            return;
        }
        Ship s = now.ships.get(ship);
        for (int p = from; p < 24 && s.stand == 0; p++) {
            if (now.free(p, s.length)) {
                way[ship] = p;
                bedWays(ship + 1, p + s.length, sum + s.length, way, best);
            }
        }
        way[ship] = -1;
        bedWays(ship + 1, from, sum, way, best);
    }

    public int beds(int ship) {
        if (ship != -1) {
            at(ship);
        }
        int[][] best = new int[1][];
        bedWays(0, 0, 0, new int[9], best);
        return best[0][ship == -1 ? 8 : ship];
    }

    private void pairWays(int ship, int sum, int[] way, int[][] best) {
        if (ship == now.ships.size()) {
            if (best[0] == null || sum > best[0][8]) {
                way[8] = sum;
                best[0] = way.clone();
            }
            return;
        }
        if (way[ship] != -1) {
            pairWays(ship + 1, sum, way, best);
            return;
        }
        pairWays(ship + 1, sum, way, best);
        Ship s = now.ships.get(ship);
        for (int o = ship + 1; o < now.ships.size() && s.stand != 2; o++) {
            Ship other = now.ships.get(o);
            if (way[o] == -1 && other.stand != 2 && s.length + other.length <= 12) {
                way[ship] = o;
                way[o] = ship;
                pairWays(ship + 1, sum + s.work + other.work, way, best);
                way[ship] = -1;
                way[o] = -1;
            }
        }
    }

    public int pairs(int ship) {
        if (ship != -1) {
            at(ship);
        }
        int[][] best = new int[1][];
        int[] way = new int[9];
        java.util.Arrays.fill(way, -1);
        pairWays(0, 0, way, best);
        return best[0][ship == -1 ? 8 : ship];
    }

    public int rests(int ship) {
        Ship s = at(ship);
        int[][] master = {{s.length, -3}, {-s.draught, now.hands}};
        int[][] pilot = {{2, 1}, {-1, 1}};
        int bits = 0;
        for (int m = 0; m < 2; m++) {
            for (int p = 0; p < 2; p++) {
                if (master[1 - m][p] <= master[m][p] && pilot[m][1 - p] <= pilot[m][p]) {
                    bits |= 1 << 2 * m + p;
                }
            }
        }
        return bits;
    }

    public int odds(int n, int k) {
        within(n, 0, 5);
        within(k, 0, 5);
        long all = 0;
        long with = 0;
        long ways = Math.round(Math.pow(now.surge + 1, n));
        for (long way = 0; way < ways; way++) {
            int above = 0;
            long rest = way;
            for (int i = 0; i < n; i++) {
                above += rest % (now.surge + 1) > 0 ? 1 : 0;
                rest /= now.surge + 1;
            }
            all++;
            with += above >= k ? 1 : 0;
        }
        return (int) (10000 * with / all);
    }

    public int most(int what) {
        if (what < 0 || what > 2) {
            throw new NoSuchElementException();
        }
        int best = -1;
        for (int i = now.ships.size() - 1; i >= 0; i--) {
            if (now.ships.get(i).stand != 2 && (best == -1 || ship(i, what) >= ship(best, what))) {
                best = i;
            }
        }
        return best;
    }

    private int bits(int stand) {
        int bits = 0;
        for (int i = 0; i < now.ships.size(); i++) {
            bits += now.ships.get(i).stand == stand ? 1 << i : 0;
        }
        return bits;
    }

    public int waiting() {
        return bits(0);
    }

    public int docked() {
        return bits(1);
    }

    public int gone() {
        return bits(2);
    }

    public int hurt() {
        int bits = 0;
        for (int i = 0; i < now.ships.size(); i++) {
            bits += now.ships.get(i).hurt ? 1 << i : 0;
        }
        return bits;
    }

    public int twins() {
        int n = 0;
        for (Ship a : now.ships) {
            for (Ship b : now.ships) {
                n += a != b && a.length == b.length && a.draught == b.draught ? 1 : 0;
            }
        }
        return n / 2;
    }

    public int water(boolean high) {
        int best = 11;
        for (int h = 11; h >= 0; h--) {
            if (high ? now.tide[h] >= now.tide[best] : now.tide[h] <= now.tide[best]) {
                best = h;
            }
        }
        return best;
    }

    public int ahead(int n, boolean work) {
        within(n, 0, 60);
        World w = in(n);
        return work ? w.allWork() : w.level;
    }

    private World tried(int n, int seed) {
        World w = now.copy();
        w.seed = seed;
        for (int i = 0; i < n; i++) {
            w.anHour(true);
        }
        return w;
    }

    public int trial(int n, boolean work) {
        within(n, 0, 60);
        World w = tried(n, now.seed);
        return work ? w.allWork() : w.level;
    }

    public int span(int n, boolean most) {
        within(n, 0, 60);
        java.util.TreeSet<Integer> levels = new java.util.TreeSet<>();
        for (int s = 1; s <= 6; s++) {
            levels.add(tried(n, s).level);
        }
        return most ? levels.last() : levels.first();
    }

    public int led(int ship, boolean hour) {
        at(ship);
        int rows = 0;
        int latest = -1;
        for (int[] row : now.log) {
            if (row[1] == ship) {
                rows++;
                latest = row[0];
            }
        }
        return hour ? latest : rows;
    }

    public int log(int ago, int what) {
        if (what < 0 || what > 4) {
            throw new NoSuchElementException();
        }
        return ago < 0 || ago >= now.log.size() ? -1 : now.log.get(now.log.size() - 1 - ago)[what];
    }

    public int seed(int n) {
        int was = now.seed;
        now.seed = n;
        return was;
    }

    public boolean undo() {
        if (past.isEmpty()) {
            return false;
        }
        now = past.remove(past.size() - 1);
        return true;
    }

    public void image() {
        kept = now.copy();
    }

    public boolean back() {
        if (kept == null) {
            return false;
        }
        now = kept.copy();
        past.clear();
        return true;
    }

    public int count(int what) {
        int free = 0;
        for (int p = 0; p < 24; p++) {
            free += now.on(p) == -1 ? 1 : 0;
        }
        int[] all = {now.ships.size(), now.texts, now.law == null ? -1 : now.law.size(), now.level, now.open ? 1 : 0,
            now.pumps, now.hands, now.surge, now.purse, now.hour, Integer.bitCount(blockBits()), free, now.allWork(),
            now.log.size(), past.size()};
        return what < 0 || what > 14 ? -1 : all[what];
    }
}
