import java.util.NoSuchElementException;

/** A dry dock, as ../shared/DOC.md tells it. The words of the document are used for the things of the document. */
public final class DryDock {
    public static final int NONE = -1;

    private static final int PLACES = 24;
    private static final int SHIPS = 8;
    private static final int SHIP_SETS = 256;
    private static final int TIDES = 12;
    private static final int LONGEST_SHIP = 12;
    private static final int DEEPEST_SHIP = 20;
    private static final int MOST_WORK = 99;
    private static final int MOST_TIDE = 30;
    private static final int MOST_LEVEL = 40;
    private static final int DRY_LEVEL = 2;
    private static final int MOST_PUMPS = 9;
    private static final int MOST_HANDS = 9;
    private static final int MOST_SURGE = 5;
    private static final int MOST_PURSE = 9999;
    private static final int MOST_HOUR = 9999;
    private static final int HOURS_AHEAD = 60;
    private static final int TAPE_BYTES = 400;
    private static final int FEED_BYTES = 20;
    private static final int ROW_BYTES = 40;
    private static final int DOCK_TEXTS = 12;
    private static final int DOCK_LINES = 14;
    private static final int LAW_LINES = 12;
    private static final int ACTS_REMEMBERED = 12;

    private static final int WAITS = 0;
    private static final int LIES_DOCKED = 1;
    private static final int IS_GONE = 2;

    private static final int LET_IN = 0;
    private static final int LET_OUT = 1;
    private static final int WAS_HURT = 2;
    private static final int WAS_DONE = 3;

    private static final int PULL = 0;
    private static final int LEAK = 1;
    private static final int FEE = 2;
    private static final int NO_SHIP = -1;

    private static final int UNTIL_DRY = 0;
    private static final int UNTIL_READY = 1;
    private static final int UNTIL_EASE = 2;

    private final Tape tape = new Tape();
    private final State now = new State();
    private final State spare = new State();
    private final State kept = new State();
    private final Law rules = new Law();
    private final Law spareRules = new Law();
    private final Law keptRules = new Law();
    private final DockReader dockReader = new DockReader(tape, spare);
    private final LawReader lawReader = new LawReader(tape, spareRules);
    private final Past past = new Past();
    private final Curves curves = new Curves();
    private final Soundings soundings = new Soundings();
    private final Plans plans = new Plans();
    private boolean imageKept;
    private int wrongByte = NONE;

    public DryDock() {
    }

    // ---- the tape and the texts

    public int feed(int a, int b, int c, int d, int e) {
        if (tape.size + FEED_BYTES > TAPE_BYTES) {
            return NONE;
        }
        tape.addFour(a);
        tape.addFour(b);
        tape.addFour(c);
        tape.addFour(d);
        tape.addFour(e);
        return tape.size;
    }

    public boolean end(int n) {
        if (n < 0 || n > tape.size) {
            return false;
        }
        tape.size = n;
        return true;
    }

    public int dock() throws IllegalArgumentException, UnsupportedOperationException {
        spare.copy(now);
        wrongByte = dockReader.readLines(DOCK_LINES);
        tape.size = 0;
        if (wrongByte != NONE) {
            throw new IllegalArgumentException("the text of the dock is wrong");
        }
        if (now.texts >= DOCK_TEXTS) {
            throw new UnsupportedOperationException("there are twelve texts");
        }
        now.copy(spare);
        now.texts++;
        past.forget();
        return now.texts;
    }

    public int law() throws IllegalArgumentException {
        spareRules.clear();
        wrongByte = lawReader.readLines(LAW_LINES);
        tape.size = 0;
        if (wrongByte != NONE) {
            throw new IllegalArgumentException("the text of the law is wrong");
        }
        rules.copy(spareRules);
        past.forget();
        return rules.lines;
    }

    public int fault() {
        return wrongByte;
    }

    // ---- what a ship, a place and an hour are

    public int ship(int ship, int what) throws IndexOutOfBoundsException, NoSuchElementException {
        needShip(ship);
        switch (what) {
            case 0: return now.length[ship];
            case 1: return now.draught[ship];
            case 2: return now.work[ship];
            case 3: return now.stand[ship];
            case 4: return now.at[ship];
            case 5: return now.isHurt(ship) ? 1 : 0;
            case 6: return now.feeOf(ship, rules);
            case 7: return now.floats(ship) ? 1 : 0;
            case 8: return now.isBorne(ship) ? 1 : 0;
            case 9: return now.wedgesOf(ship);
            case 10: return now.whenFor(ship);
            case 11: return now.fitsAt(ship);
            case 12: return now.shareOf(ship);
            default: throw new NoSuchElementException("a ship has no such thing");
        }
    }

    public int place(int place, int what) throws IndexOutOfBoundsException, NoSuchElementException {
        needPlace(place);
        switch (what) {
            case 0: return (now.blocks >> place) & 1;
            case 1: return now.shipOn(place);
            default: throw new NoSuchElementException("a place has no such thing");
        }
    }

    public int tide(int hour) throws IndexOutOfBoundsException {
        needTide(hour);
        return now.tides[hour];
    }

    // ---- acts

    public int hours(int n) throws IllegalArgumentException {
        if (n < 1 || n > HOURS_AHEAD) {
            throw new IllegalArgumentException("hours are 1 to 60");
        }
        past.remember(now);
        return now.pass(n, rules, true);
    }

    public boolean gate(boolean open) throws IllegalStateException {
        if (open && !now.open && !now.isEven()) {
            throw new IllegalStateException("tide and basin are not even");
        }
        past.remember(now);
        boolean changes = now.open != open;
        now.open = open;
        return changes;
    }

    public int enter(int ship, int place) throws IndexOutOfBoundsException, IllegalStateException {
        needShip(ship);
        needPlace(place);
        if (!now.open || now.stand[ship] != WAITS || now.draught[ship] > now.level
                || !isRoom(now.takenPlaces(), place, now.length[ship])) {
            throw new IllegalStateException("the ship cannot be let in there");
        }
        past.remember(now);
        now.letIn(ship, place);
        return now.freePlaces();
    }

    public int leave(int ship) throws IndexOutOfBoundsException, IllegalStateException {
        needShip(ship);
        if (!now.open || !now.floats(ship)) {
            throw new IllegalStateException("the ship cannot be let out");
        }
        past.remember(now);
        return now.letOut(ship, rules);
    }

    public int comes(int length, int draught, int work) throws IllegalArgumentException, IllegalStateException {
        if (length < 1 || length > LONGEST_SHIP || draught < 1 || draught > DEEPEST_SHIP
                || work < 0 || work > MOST_WORK) {
            throw new IllegalArgumentException("no ship is like that");
        }
        if (now.ships >= SHIPS) {
            throw new IllegalStateException("there are eight ships");
        }
        past.remember(now);
        return now.addShip(length, draught, work, NONE);
    }

    public boolean block(int place, boolean is) throws IndexOutOfBoundsException {
        needPlace(place);
        past.remember(now);
        int before = now.blocks;
        int bit = 1 << place;
        now.blocks = is ? before | bit : before & ~bit;
        return now.blocks != before;
    }

    public int pumps(int n) throws IllegalArgumentException {
        needNumber(n, MOST_PUMPS);
        past.remember(now);
        int before = now.pumps;
        now.pumps = n;
        return before;
    }

    public int hands(int n) throws IllegalArgumentException {
        needNumber(n, MOST_HANDS);
        past.remember(now);
        int before = now.hands;
        now.hands = n;
        return before;
    }

    public int flow(int hour, int n) throws IndexOutOfBoundsException, IllegalArgumentException {
        needTide(hour);
        needNumber(n, MOST_TIDE);
        past.remember(now);
        int before = now.tides[hour];
        now.tides[hour] = n;
        return before;
    }

    // ---- what is asked of the basin and the places

    public int pulls() {
        return now.pulling(rules);
    }

    public int leaks() {
        return now.leaking(rules);
    }

    public boolean even() {
        return now.isEven();
    }

    public int room() {
        int taken = now.takenPlaces();
        int run = 0;
        int longest = 0;
        for (int place = 0; place < PLACES; place++) {
            run = (taken >> place & 1) == 0 ? run + 1 : 0;
            longest = Math.max(longest, run);
        }
        return longest;
    }

    public int load() {
        plans.fillDock(now, rules);
        return plans.most;
    }

    public int which() {
        plans.fillDock(now, rules);
        return plans.chosen;
    }

    public int dry() {
        return firstHour(UNTIL_DRY);
    }

    public int ready() {
        return firstHour(UNTIL_READY);
    }

    public int ease() {
        return firstHour(UNTIL_EASE);
    }

    public int cost() {
        plans.orderWork(now, rules);
        return plans.most;
    }

    public int first() {
        plans.orderWork(now, rules);
        return plans.chosen;
    }

    // ---- what is guessed from rows on the tape

    public int goes(boolean first) throws IllegalArgumentException {
        needCurves();
        curves.search(false);
        return first ? curves.firstFit : curves.fitting;
    }

    public int ask() throws IllegalArgumentException {
        needCurves();
        curves.search(true);
        return curves.bestHour();
    }

    public int lies() throws IllegalArgumentException {
        needSoundings();
        soundings.search();
        return soundings.fitting;
    }

    public int likely() throws IllegalArgumentException {
        needSoundings();
        soundings.search();
        return soundings.firstFit;
    }

    public int sound() throws IllegalArgumentException {
        needSoundings();
        soundings.search();
        return soundings.bestPlace();
    }

    // ---- plans and games

    public boolean knocks() {
        return Plans.knockValue(now.blocks) != 0;
    }

    public int knock() {
        return Plans.winningKnock(now.blocks);
    }

    public int beds(int ship) throws IndexOutOfBoundsException {
        if (ship != NONE) {
            needShip(ship);
        }
        plans.putToBeds(now);
        return ship == NONE ? plans.most : plans.mate[ship];
    }

    public int pairs(int ship) throws IndexOutOfBoundsException {
        if (ship != NONE) {
            needShip(ship);
        }
        plans.pairShips(now);
        return ship == NONE ? plans.most : plans.mate[ship];
    }

    public int rests(int ship) throws IndexOutOfBoundsException {
        needShip(ship);
        return Plans.restingChoices(now.length[ship], now.draught[ship], now.hands);
    }

    public int odds(int n, int k) throws IllegalArgumentException {
        needNumber(n, 5);
        needNumber(k, 5);
        return Plans.oddsOf(n, k, now.surge);
    }

    // ---- counts of ships and of hours

    public int most(int what) throws NoSuchElementException {
        switch (what) {
            case 0: return now.greatest(now.length);
            case 1: return now.greatest(now.draught);
            case 2: return now.greatest(now.work);
            default: throw new NoSuchElementException("ships are not told apart by that");
        }
    }

    public int waiting() {
        return now.standing(WAITS);
    }

    public int docked() {
        return now.standing(LIES_DOCKED);
    }

    public int gone() {
        return now.standing(IS_GONE);
    }

    public int hurt() {
        return now.hurtShips;
    }

    public int twins() {
        int pairs = 0;
        for (int one = 0; one < now.ships; one++) {
            for (int other = one + 1; other < now.ships; other++) {
                if (now.length[one] == now.length[other] && now.draught[one] == now.draught[other]) {
                    pairs++;
                }
            }
        }
        return pairs;
    }

    public int water(boolean high) {
        int found = 0;
        for (int hour = 1; hour < TIDES; hour++) {
            int more = now.tides[hour] - now.tides[found];
            if (high ? more > 0 : more < 0) {
                found = hour;
            }
        }
        return found;
    }

    public int ahead(int n, boolean work) throws IllegalArgumentException {
        needNumber(n, HOURS_AHEAD);
        return tryHours(n, work, false);
    }

    public int trial(int n, boolean work) throws IllegalArgumentException {
        needNumber(n, HOURS_AHEAD);
        return tryHours(n, work, true);
    }

    public int span(int n, boolean most) throws IllegalArgumentException {
        needNumber(n, HOURS_AHEAD);
        int found = most ? 0 : MOST_LEVEL;
        for (int start = 1; start <= 6; start++) {
            spare.copy(now);
            spare.seed = start;
            spare.pass(n, rules, true);
            found = most ? Math.max(found, spare.level) : Math.min(found, spare.level);
        }
        return found;
    }

    public int led(int ship, boolean hour) throws IndexOutOfBoundsException {
        needShip(ship);
        return hour ? now.log.latestHourOf(ship) : now.log.rowsOf(ship);
    }

    public int log(int ago, int what) throws NoSuchElementException {
        if (what < 0 || what >= Log.WIDTH) {
            throw new NoSuchElementException("a row of the log has no such thing");
        }
        return now.log.cell(ago, what);
    }

    public int seed(int n) {
        int before = now.seed;
        now.seed = n;
        return before;
    }

    // ---- going back

    public boolean undo() {
        return past.recall(now);
    }

    public void image() {
        kept.copy(now);
        keptRules.copy(rules);
        imageKept = true;
    }

    public boolean back() {
        if (!imageKept) {
            return false;
        }
        now.copy(kept);
        rules.copy(keptRules);
        past.forget();
        return true;
    }

    public int count(int what) {
        switch (what) {
            case 0: return now.ships;
            case 1: return now.texts;
            case 2: return rules.lines;
            case 3: return now.level;
            case 4: return now.open ? 1 : 0;
            case 5: return now.pumps;
            case 6: return now.hands;
            case 7: return now.surge;
            case 8: return now.purse;
            case 9: return now.hour;
            case 10: return Integer.bitCount(now.blocks);
            case 11: return now.freePlaces();
            case 12: return now.allWork();
            case 13: return now.log.rows;
            case 14: return past.acts;
            default: return NONE;
        }
    }

    // ---- what calls have in common

    private void needShip(int ship) {
        if (ship < 0 || ship >= now.ships) {
            throw new IndexOutOfBoundsException("there is no such ship");
        }
    }

    private void needPlace(int place) {
        if (place < 0 || place >= PLACES) {
            throw new IndexOutOfBoundsException("there is no such place");
        }
    }

    private void needTide(int hour) {
        if (hour < 0 || hour >= TIDES) {
            throw new IndexOutOfBoundsException("the tide has no such hour");
        }
    }

    private void needNumber(int n, int greatest) {
        if (n < 0 || n > greatest) {
            throw new IllegalArgumentException("the number is none");
        }
    }

    private void needCurves() {
        boolean right = curves.read(tape);
        tape.size = 0;
        if (!right) {
            throw new IllegalArgumentException("the tape tells no heights");
        }
    }

    private void needSoundings() {
        boolean right = soundings.read(tape);
        tape.size = 0;
        if (!right) {
            throw new IllegalArgumentException("the tape tells no soundings");
        }
    }

    private int firstHour(int aim) {
        spare.copy(now);
        for (int n = 0; n <= HOURS_AHEAD; n++) {
            if (spare.reaches(aim)) {
                return n;
            }
            spare.step(rules, false);
        }
        return NONE;
    }

    private int tryHours(int n, boolean work, boolean draws) {
        spare.copy(now);
        spare.pass(n, rules, draws);
        return work ? spare.allWork() : spare.level;
    }

    private static int placeBits(int place, int length) {
        return ((1 << length) - 1) << place;
    }

    private static boolean isRoom(int taken, int place, int length) {
        return place + length <= PLACES && (taken & placeBits(place, length)) == 0;
    }

    // ---- classes

    /** The bytes that were fed and not used up yet. */
    private static final class Tape {
        final byte[] bytes = new byte[TAPE_BYTES];
        int size;

        void addFour(int number) {
            for (int shift = 24; shift >= 0; shift -= 8) {
                if (size < TAPE_BYTES) {
                    bytes[size] = (byte) (number >> shift);
                    size++;
                }
            }
        }

        /** NONE behind the end, so that a reader need not ask for the end at each sign. */
        int sign(int index) {
            return index >= 0 && index < size ? bytes[index] & 255 : NONE;
        }
    }

    /**
     * Reads words, numbers and other signs (things) from the tape. What cannot stand there is not passed over: so, when
     * a text is wrong, the next thing is the first wrong one. Behind the last one stands an empty thing at the end.
     */
    private abstract static class Reader {
        private static final int BLANK = 0;
        private static final int LETTER = 1;
        private static final int DIGIT = 2;
        private static final int OTHER = 3;

        final Tape tape;
        int next;
        int value;
        private int things;
        private final int[] kinds = new int[TAPE_BYTES + 1];
        private final int[] begins = new int[TAPE_BYTES + 1];
        private final int[] ends = new int[TAPE_BYTES + 1];

        Reader(Tape tape) {
            this.tape = tape;
        }

        abstract boolean readLine();

        /** LINE { ; LINE }: NONE, or the first wrong byte. */
        final int readLines(int mostLines) {
            split();
            if (things == 0) {
                return NONE;
            }
            for (int line = 0; line < mostLines; line++) {
                if (!readLine()) {
                    return begins[next];
                }
                if (next == things) {
                    return NONE;
                }
                if (!takeSign(';')) {
                    return begins[next];
                }
            }
            return begins[next];
        }

        private void split() {
            next = 0;
            things = 0;
            int before = BLANK;
            for (int at = 0; at < tape.size; at++) {
                int kind = kindOf(tape.bytes[at]);
                if (things > 0 && kind == before && (kind == LETTER || kind == DIGIT)) {
                    ends[things - 1] = at + 1;
                } else if (kind != BLANK) {
                    kinds[things] = kind;
                    begins[things] = at;
                    ends[things] = at + 1;
                    things++;
                }
                before = kind;
            }
            kinds[things] = BLANK;
            begins[things] = tape.size;
            ends[things] = tape.size;
        }

        private static int kindOf(int sign) {
            if (sign >= 'a' && sign <= 'z') {
                return LETTER;
            }
            if (sign >= '0' && sign <= '9') {
                return DIGIT;
            }
            return sign == ' ' ? BLANK : OTHER;
        }

        final boolean takeSign(char sign) {
            int begin = begins[next];
            if (kinds[next] != OTHER || tape.bytes[begin] != sign) {
                return false;
            }
            next++;
            return true;
        }

        final boolean takeWord(String word) {
            int begin = begins[next];
            int size = ends[next] - begin;
            if (kinds[next] != LETTER || size != word.length()) {
                return false;
            }
            for (int i = 0; i < size; i++) {
                if (tape.bytes[begin + i] != word.charAt(i)) {
                    return false;
                }
            }
            next++;
            return true;
        }

        final boolean atNumber() {
            return kinds[next] == DIGIT;
        }

        final boolean takeNumber(int least, int greatest) {
            int begin = begins[next];
            int digits = ends[next] - begin;
            if (kinds[next] != DIGIT || digits > 3) {
                return false;
            }
            int number = 0;
            for (int i = 0; i < digits; i++) {
                number = 10 * number + tape.bytes[begin + i] - '0';
            }
            if (number < least || number > greatest) {
                return false;
            }
            value = number;
            next++;
            return true;
        }
    }

    /** Reads a text of THE DOCK into the spare state, of which nothing is used, if the text is wrong. */
    private static final class DockReader extends Reader {
        private final State into;

        DockReader(Tape tape, State into) {
            super(tape);
            this.into = into;
        }

        boolean readLine() {
            int begin = next;
            if (takeWord("ship")) {
                return readShip(begin);
            }
            if (takeWord("tide")) {
                return readTides();
            }
            if (takeWord("blocks")) {
                return readBlocks();
            }
            if (takeWord("shut")) {
                into.open = false;
                return true;
            }
            return readSetting();
        }

        private boolean readSetting() {
            if (takeWord("level")) {
                return setLevel();
            }
            if (takeWord("pumps")) {
                return setPumps();
            }
            if (takeWord("hands")) {
                return setHands();
            }
            if (takeWord("surge")) {
                return setSurge();
            }
            return takeWord("hour") && setHour();
        }

        private boolean setLevel() {
            boolean right = takeNumber(0, MOST_LEVEL);
            into.level = right ? value : into.level;
            return right;
        }

        private boolean setPumps() {
            boolean right = takeNumber(0, MOST_PUMPS);
            into.pumps = right ? value : into.pumps;
            return right;
        }

        private boolean setHands() {
            boolean right = takeNumber(0, MOST_HANDS);
            into.hands = right ? value : into.hands;
            return right;
        }

        private boolean setSurge() {
            boolean right = takeNumber(0, MOST_SURGE);
            into.surge = right ? value : into.surge;
            return right;
        }

        private boolean setHour() {
            boolean right = takeNumber(0, 999);
            into.hour = right ? value : into.hour;
            return right;
        }

        private boolean readShip(int begin) {
            if (into.ships >= SHIPS) {
                next = begin;
                return false;
            }
            if (!takeWord("length") || !takeNumber(1, LONGEST_SHIP)) {
                return false;
            }
            int length = value;
            if (!takeWord("draught") || !takeNumber(1, DEEPEST_SHIP)) {
                return false;
            }
            int draught = value;
            int work = 0;
            if (takeWord("work")) {
                if (!takeNumber(0, MOST_WORK)) {
                    return false;
                }
                work = value;
            }
            int place = NONE;
            if (takeWord("at")) {
                if (!takeFreePlace(length)) {
                    return false;
                }
                place = value;
            }
            into.addShip(length, draught, work, place);
            return true;
        }

        private boolean takeFreePlace(int length) {
            int begin = next;
            if (!takeNumber(0, PLACES - 1)) {
                return false;
            }
            if (!isRoom(into.takenPlaces(), value, length)) {
                next = begin;
                return false;
            }
            return true;
        }

        private boolean readTides() {
            for (int hour = 0; hour < TIDES; hour++) {
                if (!takeNumber(0, MOST_TIDE)) {
                    return false;
                }
                into.tides[hour] = value;
                if (!atNumber()) {
                    return true;
                }
            }
            return false;
        }

        private boolean readBlocks() {
            for (int n = 0; n < 12; n++) {
                if (!takeNumber(0, PLACES - 1)) {
                    return false;
                }
                into.blocks |= 1 << value;
                if (!atNumber()) {
                    return true;
                }
            }
            return false;
        }
    }

    /** Reads THE LAW into the spare rules, whose conditions stand as code, each operation behind what it works on. */
    private static final class LawReader extends Reader {
        private static final int DEEPEST = 6;

        private final Law into;

        LawReader(Tape tape, Law into) {
            super(tape);
            this.into = into;
        }

        boolean readLine() {
            int kind = takeKind();
            if (kind == NONE || !takeNumber(0, 40)) {
                return false;
            }
            into.beginLine(kind, value);
            if (takeWord("if") && !readAny(0)) {
                return false;
            }
            into.endLine();
            return true;
        }

        private int takeKind() {
            if (takeWord("pull")) {
                return PULL;
            }
            if (takeWord("leak")) {
                return LEAK;
            }
            return takeWord("fee") ? FEE : NONE;
        }

        private boolean readAny(int deep) {
            if (!readAll(deep)) {
                return false;
            }
            for (int n = 0; n < TAPE_BYTES && takeWord("or"); n++) {
                if (!readAll(deep)) {
                    return false;
                }
                into.add(Law.OR);
            }
            return true;
        }

        private boolean readAll(int deep) {
            if (!readAtom(deep)) {
                return false;
            }
            for (int n = 0; n < TAPE_BYTES && takeWord("and"); n++) {
                if (!readAtom(deep)) {
                    return false;
                }
                into.add(Law.AND);
            }
            return true;
        }

        private boolean readAtom(int deep) {
            int begin = next;
            boolean negated = takeWord("not");
            boolean nested = !negated && takeSign('(');
            if ((negated || nested) && deep >= DEEPEST) {
                next = begin;
                return false;
            }
            if (negated) {
                return readAtom(deep + 1) && into.add(Law.NOT);
            }
            if (nested) {
                return readAny(deep + 1) && takeSign(')');
            }
            if (takeWord("open")) {
                return into.add(Law.OPEN);
            }
            if (takeWord("dry")) {
                return into.add(Law.DRY);
            }
            if (takeWord("hurt")) {
                return into.add(Law.HURT);
            }
            return readComparison();
        }

        private boolean readComparison() {
            if (!readSum()) {
                return false;
            }
            boolean less = takeSign('<');
            if (!less && !takeSign('>')) {
                return false;
            }
            return readSum() && into.add(less ? Law.LESS : Law.MORE);
        }

        private boolean readSum() {
            if (!readPart()) {
                return false;
            }
            for (int n = 0; n < TAPE_BYTES && takeSign('+'); n++) {
                if (!readPart()) {
                    return false;
                }
                into.add(Law.PLUS);
            }
            return true;
        }

        private boolean readPart() {
            if (takeNumber(0, 999)) {
                return into.add(value);
            }
            if (takeWord("ship")) {
                return into.add(Law.SHIP);
            }
            if (takeWord("length")) {
                return into.add(Law.LENGTH);
            }
            if (takeWord("draught")) {
                return into.add(Law.DRAUGHT);
            }
            if (takeWord("work")) {
                return into.add(Law.WORK);
            }
            if (takeWord("level")) {
                return into.add(Law.LEVEL);
            }
            if (takeWord("tide")) {
                return into.add(Law.TIDE);
            }
            return takeWord("hour") && into.add(Law.HOUR);
        }
    }

    /** THE LAW. A condition is code: a number from 0 on stands for itself, what is below 0 for a value or a deed. */
    private static final class Law {
        static final int SHIP = -1;
        static final int LENGTH = -2;
        static final int DRAUGHT = -3;
        static final int WORK = -4;
        static final int LEVEL = -5;
        static final int TIDE = -6;
        static final int HOUR = -7;
        static final int OPEN = -8;
        static final int DRY = -9;
        static final int HURT = -10;
        static final int NOT = -11;
        static final int AND = -12;
        static final int OR = -13;
        static final int PLUS = -14;
        static final int LESS = -15;
        static final int MORE = -16;

        /** Far above what is needed: six levels, each with two results held back at most, and a sum in a comparison. */
        private static final int STACK = 32;

        int lines = NONE;
        private int size;
        private final int[] kinds = new int[LAW_LINES];
        private final int[] amounts = new int[LAW_LINES];
        private final int[] ends = new int[LAW_LINES];
        private final int[] code = new int[TAPE_BYTES];
        private final int[] stack = new int[STACK];

        void copy(Law other) {
            lines = other.lines;
            size = other.size;
            System.arraycopy(other.kinds, 0, kinds, 0, LAW_LINES);
            System.arraycopy(other.amounts, 0, amounts, 0, LAW_LINES);
            System.arraycopy(other.ends, 0, ends, 0, LAW_LINES);
            System.arraycopy(other.code, 0, code, 0, TAPE_BYTES);
        }

        void clear() {
            lines = 0;
            size = 0;
        }

        void beginLine(int kind, int amount) {
            if (lines < LAW_LINES) {
                kinds[lines] = kind;
                amounts[lines] = amount;
            }
        }

        void endLine() {
            if (lines < LAW_LINES) {
                ends[lines] = size;
                lines++;
            }
        }

        /** True, so that a reader can end with it: code has a place for each byte of the tape. */
        boolean add(int item) {
            if (size < TAPE_BYTES) {
                code[size] = item;
                size++;
            }
            return true;
        }

        /** The sum of N of all LINES of a kind that hold. */
        int sumOf(int kind, State state, int ship) {
            int sum = 0;
            int from = 0;
            for (int line = 0; line < lines; line++) {
                if (kinds[line] == kind && holds(from, ends[line], state, ship)) {
                    sum += amounts[line];
                }
                from = ends[line];
            }
            return sum;
        }

        private boolean holds(int from, int to, State state, int ship) {
            int top = 0;
            for (int i = from; i < to; i++) {
                int item = code[i];
                if (item == NOT && top >= 1) {
                    stack[top - 1] = 1 - stack[top - 1];
                } else if (item < NOT && top >= 2) {
                    top--;
                    stack[top - 1] = joined(item, stack[top - 1], stack[top]);
                } else if (item > NOT && top < STACK) {
                    stack[top] = item >= 0 ? item : measure(item, state, ship);
                    top++;
                }
            }
            return top == 0 || stack[0] != 0;
        }

        private static int joined(int item, int left, int right) {
            switch (item) {
                case AND: return left & right;
                case OR: return left | right;
                case PLUS: return left + right;
                case LESS: return left < right ? 1 : 0;
                case MORE: return left > right ? 1 : 0;
                default: return 0;
            }
        }

        private static int measure(int item, State state, int ship) {
            boolean none = ship < 0 || ship >= SHIPS;
            int clock = state.hour % TIDES;
            switch (item) {
                case SHIP: return none ? 9 : ship;
                case LENGTH: return none ? 0 : state.length[ship];
                case DRAUGHT: return none ? 0 : state.draught[ship];
                case WORK: return none ? 0 : state.work[ship];
                case LEVEL: return state.level;
                case TIDE: return state.tides[clock];
                case HOUR: return clock;
                case OPEN: return state.open ? 1 : 0;
                case DRY: return state.level <= DRY_LEVEL ? 1 : 0;
                case HURT: return none ? 0 : state.hurtShips >> ship & 1;
                default: return 0;
            }
        }
    }

    /** THE LOG, as a ring: of more than 60 rows the oldest is written over. */
    private static final class Log {
        static final int WIDTH = 5;
        private static final int ROWS = 60;

        int rows;
        private int next;
        private final int[] cells = new int[ROWS * WIDTH];

        void copy(Log other) {
            rows = other.rows;
            next = other.next;
            System.arraycopy(other.cells, 0, cells, 0, ROWS * WIDTH);
        }

        void add(int hour, int ship, int kind, int place, int level) {
            int begin = next * WIDTH;
            cells[begin] = hour;
            cells[begin + 1] = ship;
            cells[begin + 2] = kind;
            cells[begin + 3] = place;
            cells[begin + 4] = level;
            next = (next + 1) % ROWS;
            rows = Math.min(rows + 1, ROWS);
        }

        int cell(int ago, int what) {
            if (ago < 0 || ago >= rows || what < 0 || what >= WIDTH) {
                return NONE;
            }
            return cells[(next + ROWS - 1 - ago) % ROWS * WIDTH + what];
        }

        int rowsOf(int ship) {
            int found = 0;
            for (int ago = 0; ago < rows; ago++) {
                if (cell(ago, 1) == ship) {
                    found++;
                }
            }
            return found;
        }

        int latestHourOf(int ship) {
            for (int ago = 0; ago < rows; ago++) {
                if (cell(ago, 1) == ship) {
                    return cell(ago, 0);
                }
            }
            return NONE;
        }
    }

    /** All that an act can change, so that one copy is enough for a trial, for an act undone and for the image. */
    private static final class State {
        int level = 10;
        int hour;
        int pumps = 2;
        int hands = 3;
        int surge;
        int purse;
        int seed = 1;
        int texts;
        int ships;
        int blocks;
        int hurtShips;
        boolean open = true;
        final int[] tides = {10, 10, 10, 10, 10, 10, 10, 10, 10, 10, 10, 10};
        final int[] length = new int[SHIPS];
        final int[] draught = new int[SHIPS];
        final int[] work = new int[SHIPS];
        final int[] stand = new int[SHIPS];
        final int[] at = new int[SHIPS];
        final Log log = new Log();

        void copy(State other) {
            level = other.level;
            hour = other.hour;
            pumps = other.pumps;
            hands = other.hands;
            surge = other.surge;
            purse = other.purse;
            seed = other.seed;
            texts = other.texts;
            ships = other.ships;
            blocks = other.blocks;
            hurtShips = other.hurtShips;
            open = other.open;
            System.arraycopy(other.tides, 0, tides, 0, TIDES);
            System.arraycopy(other.length, 0, length, 0, SHIPS);
            System.arraycopy(other.draught, 0, draught, 0, SHIPS);
            System.arraycopy(other.work, 0, work, 0, SHIPS);
            System.arraycopy(other.stand, 0, stand, 0, SHIPS);
            System.arraycopy(other.at, 0, at, 0, SHIPS);
            log.copy(other.log);
        }

        // -- the basin

        int tideNow() {
            return tides[hour % TIDES];
        }

        boolean isEven() {
            return Math.abs(level - tideNow()) <= 1;
        }

        int pulling(Law rules) {
            return pumps + rules.sumOf(PULL, this, NO_SHIP);
        }

        int leaking(Law rules) {
            return (tideNow() > level ? 1 : 0) + rules.sumOf(LEAK, this, NO_SHIP);
        }

        private int nextSurge() {
            seed = 1103515245 * seed + 12345;
            int draw = seed >>> 16 & 32767;
            return surge > 0 ? draw % (surge + 1) : 0;
        }

        // -- hours

        /** How much WORK was done in n HOURS more. */
        int pass(int n, Law rules, boolean draws) {
            int done = 0;
            for (int i = 0; i < n; i++) {
                done += step(rules, draws);
            }
            return done;
        }

        int step(Law rules, boolean draws) {
            hour = Math.min(hour + 1, MOST_HOUR);
            if (open) {
                level = tideNow() + (draws ? nextSurge() : 0);
            } else {
                level = Math.max(0, Math.min(MOST_LEVEL, level + leaking(rules) - pulling(rules)));
            }
            hurtUnborne();
            return level <= DRY_LEVEL ? workHands() : 0;
        }

        private void hurtUnborne() {
            for (int ship = 0; ship < ships; ship++) {
                if (sits(ship) && !isHurt(ship) && !isBorne(ship)) {
                    hurtShips |= 1 << ship;
                    work[ship] = Math.min(work[ship] + 5, MOST_WORK);
                    log.add(hour, ship, WAS_HURT, at[ship], level);
                }
            }
        }

        private int workHands() {
            int left = hands;
            for (int ship = 0; ship < ships; ship++) {
                if (sits(ship)) {
                    int done = Math.min(left, work[ship]);
                    left -= done;
                    work[ship] -= done;
                    if (done > 0 && work[ship] == 0) {
                        log.add(hour, ship, WAS_DONE, at[ship], level);
                    }
                }
            }
            return hands - left;
        }

        boolean reaches(int aim) {
            switch (aim) {
                case UNTIL_DRY: return level <= DRY_LEVEL;
                case UNTIL_READY: return busyDocked() == 0;
                default: return open || isEven();
            }
        }

        // -- ships

        int addShip(int shipLength, int shipDraught, int shipWork, int place) {
            if (ships >= SHIPS) {
                return NONE;
            }
            int ship = ships;
            length[ship] = shipLength;
            draught[ship] = shipDraught;
            work[ship] = shipWork;
            stand[ship] = place == NONE ? WAITS : LIES_DOCKED;
            at[ship] = place;
            ships++;
            return ship;
        }

        void letIn(int ship, int place) {
            stand[ship] = LIES_DOCKED;
            at[ship] = place;
            log.add(hour, ship, LET_IN, place, level);
        }

        int letOut(int ship, Law rules) {
            int fee = feeOf(ship, rules);
            log.add(hour, ship, LET_OUT, at[ship], level);
            stand[ship] = IS_GONE;
            at[ship] = NONE;
            purse = Math.min(purse + fee, MOST_PURSE);
            return fee;
        }

        boolean isHurt(int ship) {
            return (hurtShips >> ship & 1) == 1;
        }

        boolean floats(int ship) {
            return stand[ship] == LIES_DOCKED && draught[ship] <= level;
        }

        private boolean sits(int ship) {
            return stand[ship] == LIES_DOCKED && draught[ship] > level;
        }

        boolean isBorne(int ship) {
            return wedgesOf(ship) == 0;
        }

        /** A BLOCK more is put as far behind as the first PLACES without one allow: so it serves the most behind. */
        int wedgesOf(int ship) {
            if (stand[ship] != LIES_DOCKED) {
                return NONE;
            }
            if (length[ship] < 3) {
                return (blocks & placeBits(at[ship], length[ship])) == 0 ? 1 : 0;
            }
            int bare = 0;
            int wedges = 0;
            for (int i = 0; i < length[ship]; i++) {
                bare = (blocks >> at[ship] + i & 1) == 1 ? 0 : bare + 1;
                if (bare == 3) {
                    wedges++;
                    bare = 0;
                }
            }
            return wedges;
        }

        int whenFor(int ship) {
            for (int n = 0; n <= HOURS_AHEAD; n++) {
                if (tides[(hour + n) % TIDES] >= draught[ship]) {
                    return n;
                }
            }
            return NONE;
        }

        int fitsAt(int ship) {
            int taken = takenPlaces();
            for (int place = 0; place < PLACES; place++) {
                if (stand[ship] == WAITS && isRoom(taken, place, length[ship])) {
                    return place;
                }
            }
            return NONE;
        }

        int feeOf(int ship, Law rules) {
            return 3 * length[ship] + rules.sumOf(FEE, this, ship);
        }

        int shareOf(int ship) {
            int sum = 0;
            for (int other = 0; other < ships; other++) {
                sum += stand[other] == IS_GONE ? 0 : work[other];
            }
            return sum > 0 && stand[ship] != IS_GONE ? 100 * work[ship] / sum : 0;
        }

        // -- sets and sums

        int standing(int how) {
            int set = 0;
            for (int ship = 0; ship < ships; ship++) {
                set |= stand[ship] == how ? 1 << ship : 0;
            }
            return set;
        }

        int busyDocked() {
            int set = 0;
            for (int ship = 0; ship < ships; ship++) {
                set |= stand[ship] == LIES_DOCKED && work[ship] > 0 ? 1 << ship : 0;
            }
            return set;
        }

        int takenPlaces() {
            int taken = 0;
            for (int ship = 0; ship < ships; ship++) {
                taken |= stand[ship] == LIES_DOCKED ? placeBits(at[ship], length[ship]) : 0;
            }
            return taken;
        }

        int freePlaces() {
            return PLACES - Integer.bitCount(takenPlaces());
        }

        int shipOn(int place) {
            for (int ship = 0; ship < ships; ship++) {
                if (stand[ship] == LIES_DOCKED && place >= at[ship] && place < at[ship] + length[ship]) {
                    return ship;
                }
            }
            return NONE;
        }

        int allWork() {
            int sum = 0;
            for (int ship = 0; ship < ships; ship++) {
                sum += work[ship];
            }
            return sum;
        }

        int greatest(int[] measure) {
            int found = NONE;
            for (int ship = 0; ship < ships; ship++) {
                if (stand[ship] != IS_GONE && (found == NONE || measure[ship] > measure[found])) {
                    found = ship;
                }
            }
            return found;
        }
    }

    /** What it was like ahead of the latest acts, as a ring: of more than 12 the oldest is written over. */
    private static final class Past {
        int acts;
        private int next;
        private final State[] states = new State[ACTS_REMEMBERED];

        Past() {
            for (int i = 0; i < ACTS_REMEMBERED; i++) {
                states[i] = new State();
            }
        }

        void remember(State state) {
            states[next].copy(state);
            next = (next + 1) % ACTS_REMEMBERED;
            acts = Math.min(acts + 1, ACTS_REMEMBERED);
        }

        boolean recall(State into) {
            if (acts == 0) {
                return false;
            }
            next = (next + ACTS_REMEMBERED - 1) % ACTS_REMEMBERED;
            acts--;
            into.copy(states[next]);
            return true;
        }

        void forget() {
            acts = 0;
        }
    }

    /** Tides LOW, HIGH, LATE by the heights that were told. */
    private static final class Curves {
        /** By how much an hour, together with LATE modulo 12, differs from 6. */
        private static final int[] SWING = {6, 5, 4, 3, 2, 1, 0, 1, 2, 3, 4, 5};
        private static final int HEIGHTS = MOST_TIDE + 1;

        int fitting;
        int firstFit;
        private int rows;
        private final int[] hour = new int[ROW_BYTES / 2];
        private final int[] height = new int[ROW_BYTES / 2];
        private final int[] bySwing = new int[7];
        private final int[] parts = new int[TIDES * HEIGHTS];

        boolean read(Tape tape) {
            rows = 0;
            if (tape.size > ROW_BYTES || tape.size % 2 != 0) {
                return false;
            }
            for (int i = 0; i < tape.size; i += 2) {
                int toldHour = tape.sign(i);
                int toldHeight = tape.sign(i + 1);
                if (toldHour > 99 || toldHeight > MOST_TIDE) {
                    return false;
                }
                hour[rows] = toldHour % TIDES;
                height[rows] = toldHeight;
                rows++;
            }
            return true;
        }

        /** Goes through all in the order of their numbers, so the first one that fits is CURVE. */
        void search(boolean parting) {
            fitting = 0;
            firstFit = NONE;
            for (int i = 0; i < TIDES * HEIGHTS; i++) {
                parts[i] = 0;
            }
            for (int low = 0; low <= MOST_TIDE; low++) {
                for (int high = low; high <= MOST_TIDE; high++) {
                    searchLate(low, high, parting);
                }
            }
        }

        private void searchLate(int low, int high, boolean parting) {
            for (int swing = 0; swing <= 6; swing++) {
                bySwing[swing] = low + (high - low) * swing / 6;
            }
            for (int late = 0; late < TIDES; late++) {
                if (fits(late)) {
                    if (fitting == 0) {
                        firstFit = 372 * low + 12 * high + late;
                    }
                    fitting++;
                    if (parting) {
                        part(late);
                    }
                }
            }
        }

        private int heightAt(int when, int late) {
            return bySwing[SWING[(when + late) % TIDES]];
        }

        private boolean fits(int late) {
            for (int row = 0; row < rows; row++) {
                if (heightAt(hour[row], late) != height[row]) {
                    return false;
                }
            }
            return true;
        }

        private void part(int late) {
            for (int when = 0; when < TIDES; when++) {
                parts[when * HEIGHTS + heightAt(when, late)]++;
            }
        }

        /** Hours from 12 on part as those below 12 do, and the least is asked for. */
        int bestHour() {
            int best = NONE;
            int least = fitting;
            for (int when = 0; when < TIDES && fitting >= 2; when++) {
                int greatest = greatestPart(when);
                if (best == NONE || greatest < least) {
                    best = when;
                    least = greatest;
                }
            }
            return best;
        }

        private int greatestPart(int when) {
            int greatest = 0;
            for (int i = 0; i < HEIGHTS; i++) {
                greatest = Math.max(greatest, parts[when * HEIGHTS + i]);
            }
            return greatest;
        }
    }

    /** First PLACES and LENGTHS by the soundings that were told, of which one may be wrong. */
    private static final class Soundings {
        int fitting;
        int firstFit;
        private int fewestWrong;
        private int rows;
        private final int[] place = new int[ROW_BYTES / 2];
        private final boolean[] touched = new boolean[ROW_BYTES / 2];
        private final int[] covering = new int[PLACES];

        boolean read(Tape tape) {
            rows = 0;
            if (tape.size > ROW_BYTES || tape.size % 2 != 0) {
                return false;
            }
            for (int i = 0; i < tape.size; i += 2) {
                if (tape.sign(i) >= PLACES || tape.sign(i + 1) > 1) {
                    return false;
                }
                place[rows] = tape.sign(i);
                touched[rows] = tape.sign(i + 1) == 1;
                rows++;
            }
            return true;
        }

        void search() {
            fitting = 0;
            firstFit = NONE;
            fewestWrong = 2;
            for (int i = 0; i < PLACES; i++) {
                covering[i] = 0;
            }
            for (int begin = 0; begin < PLACES; begin++) {
                for (int length = 1; length <= LONGEST_SHIP && begin + length <= PLACES; length++) {
                    weigh(begin, length);
                }
            }
        }

        private void weigh(int begin, int length) {
            int wrong = wrongRows(begin, length);
            if (wrong > 1) {
                return;
            }
            fitting++;
            if (wrong < fewestWrong) {
                fewestWrong = wrong;
                firstFit = 12 * begin + length - 1;
            }
            for (int i = begin; i < begin + length && i < PLACES; i++) {
                covering[i]++;
            }
        }

        private int wrongRows(int begin, int length) {
            int wrong = 0;
            for (int row = 0; row < rows; row++) {
                boolean within = place[row] >= begin && place[row] < begin + length;
                if (within != touched[row]) {
                    wrong++;
                }
            }
            return wrong;
        }

        int bestPlace() {
            int best = NONE;
            int least = fitting;
            for (int i = 0; i < PLACES && fitting >= 2; i++) {
                int greater = Math.max(covering[i], fitting - covering[i]);
                if (best == NONE || greater < least) {
                    best = i;
                    least = greater;
                }
            }
            return best;
        }
    }

    /** What would be the best of all ways. One table over sets of ships serves all, as no call needs two at once. */
    private static final class Plans {
        /** What a row of so many BLOCKS is worth to the one whose turn it is (a heap of that size in the game Nim). */
        private static final int[] ROW_VALUES = {
            0, 1, 2, 3, 1, 4, 3, 2, 1, 4, 2, 6, 4, 1, 2, 7, 1, 4, 3, 2, 1, 4, 6, 7, 4};
        private static final int FULL = 1 << 20;
        private static final int BIN = 32;

        int most;
        int chosen;
        final int[] mate = new int[SHIPS];
        private int bins;
        private final int[] binSize = new int[PLACES];
        private final int[] fee = new int[SHIPS];
        private final int[] bySet = new int[SHIP_SETS];
        private final int[] bedded = new int[(SHIPS + 1) * (PLACES + 1)];

        // -- LOAD and WHICH

        /**
         * Of each set of ships: how far the rows of free PLACES, one behind another, must be filled for it at least:
         * BIN times the row, and the PLACES used there. Who needs less has all the ways of who needs more.
         */
        void fillDock(State state, Law rules) {
            findBins(state.takenPlaces());
            findFees(state, rules);
            int may = 0;
            for (int ship = 0; ship < state.ships; ship++) {
                may |= state.stand[ship] == WAITS && state.draught[ship] <= state.level ? 1 << ship : 0;
            }
            most = 0;
            chosen = 0;
            bySet[0] = 0;
            for (int set = 1; set < SHIP_SETS; set++) {
                bySet[set] = (set & ~may) == 0 ? leastFilling(set, state) : FULL;
                if (bySet[set] != FULL && feesOf(set) > most) {
                    most = feesOf(set);
                    chosen = set;
                }
            }
        }

        private void findBins(int taken) {
            bins = 0;
            int run = 0;
            for (int place = 0; place <= PLACES; place++) {
                boolean free = place < PLACES && (taken >> place & 1) == 0;
                if (!free && run > 0 && bins < PLACES) {
                    binSize[bins] = run;
                    bins++;
                }
                run = free ? run + 1 : 0;
            }
        }

        private void findFees(State state, Law rules) {
            for (int ship = 0; ship < SHIPS; ship++) {
                fee[ship] = ship < state.ships ? state.feeOf(ship, rules) : 0;
            }
        }

        private int feesOf(int set) {
            int sum = 0;
            for (int ship = 0; ship < SHIPS; ship++) {
                sum += (set >> ship & 1) * fee[ship];
            }
            return sum;
        }

        private int leastFilling(int set, State state) {
            int least = FULL;
            for (int ship = 0; ship < SHIPS; ship++) {
                if ((set >> ship & 1) == 1) {
                    least = Math.min(least, filledBy(bySet[set ^ 1 << ship], state.length[ship]));
                }
            }
            return least;
        }

        private int filledBy(int filled, int length) {
            int used = filled % BIN;
            for (int bin = filled / BIN; bin < bins; bin++) {
                if (used + length <= binSize[bin]) {
                    return bin * BIN + used + length;
                }
                used = 0;
            }
            return FULL;
        }

        // -- COST and FIRST

        /** Of each set of ships that are done: what those that are left cost at least. */
        void orderWork(State state, Law rules) {
            int all = state.busyDocked();
            most = 0;
            chosen = NONE;
            if (all == 0) {
                return;
            }
            if (state.hands <= 0) {
                most = NONE;
                return;
            }
            findFees(state, rules);
            bySet[all] = 0;
            for (int done = all - 1; done >= 0; done--) {
                if ((done & ~all) == 0) {
                    orderRest(done, all, state);
                }
            }
            most = bySet[0];
        }

        /** The sets come from the fullest on: the last one is the empty one, and what is chosen there is FIRST. */
        private void orderRest(int done, int all, State state) {
            int gone = 0;
            for (int ship = 0; ship < SHIPS; ship++) {
                gone += (done >> ship & 1) * state.work[ship];
            }
            chosen = NONE;
            for (int ship = 0; ship < SHIPS; ship++) {
                if (((all & ~done) >> ship & 1) == 1) {
                    int until = roundedUp(gone + state.work[ship], state.hands);
                    int cost = fee[ship] * until + bySet[done | 1 << ship];
                    if (chosen == NONE || cost < bySet[done]) {
                        bySet[done] = cost;
                        chosen = ship;
                    }
                }
            }
        }

        private static int roundedUp(int work, int hands) {
            return hands > 0 ? (work + hands - 1) / hands : 0;
        }

        // -- BEDS

        /** Of each ship and each PLACE: the most that it and those of greater numbers bring from that PLACE on. */
        void putToBeds(State state) {
            int taken = state.takenPlaces();
            for (int i = 0; i < (SHIPS + 1) * (PLACES + 1); i++) {
                bedded[i] = 0;
            }
            for (int ship = state.ships - 1; ship >= 0; ship--) {
                for (int place = PLACES; place >= 0; place--) {
                    int left = bedded[bed(ship + 1, place)];
                    int later = place < PLACES ? bedded[bed(ship, place + 1)] : 0;
                    int here = beddedAt(state, taken, ship, place);
                    bedded[bed(ship, place)] = Math.max(left, Math.max(later, here));
                }
            }
            most = bedded[0];
            findBeds(state, taken);
        }

        private void findBeds(State state, int taken) {
            int from = 0;
            for (int ship = 0; ship < state.ships; ship++) {
                int due = bedded[bed(ship, from)];
                mate[ship] = NONE;
                for (int place = from; place < PLACES && mate[ship] == NONE; place++) {
                    if (beddedAt(state, taken, ship, place) == due) {
                        mate[ship] = place;
                        from = place + state.length[ship];
                    }
                }
            }
        }

        private static int bed(int ship, int place) {
            return ship * (PLACES + 1) + place;
        }

        /** NONE, if the ship cannot be put there. */
        private int beddedAt(State state, int taken, int ship, int place) {
            int length = state.length[ship];
            if (state.stand[ship] != WAITS || !isRoom(taken, place, length)) {
                return NONE;
            }
            return length + bedded[bed(ship + 1, place + length)];
        }

        // -- PAIRS

        /** Of each set of ships: the most WORK of those in it that are put two by two. */
        void pairShips(State state) {
            int all = 0;
            for (int ship = 0; ship < state.ships; ship++) {
                all |= state.stand[ship] != IS_GONE ? 1 << ship : 0;
                mate[ship] = NONE;
            }
            bySet[0] = 0;
            for (int set = 1; set <= all; set++) {
                if ((set & ~all) == 0) {
                    bySet[set] = pairedWork(set, state);
                }
            }
            most = bySet[all];
            findMates(all, state);
        }

        private int pairedWork(int set, State state) {
            int one = Integer.numberOfTrailingZeros(set);
            int rest = set & set - 1;
            int greatest = bySet[rest];
            for (int other = one + 1; other < SHIPS; other++) {
                greatest = Math.max(greatest, pairedWith(one, other, rest, state));
            }
            return greatest;
        }

        /** NONE, if the two cannot be a pair. */
        private int pairedWith(int one, int other, int rest, State state) {
            if ((rest >> other & 1) == 0 || state.length[one] + state.length[other] > 12) {
                return NONE;
            }
            return state.work[one] + state.work[other] + bySet[rest ^ 1 << other];
        }

        private void findMates(int all, State state) {
            int left = all;
            for (int one = 0; one < state.ships; one++) {
                if ((left >> one & 1) == 1) {
                    int due = bySet[left];
                    left ^= 1 << one;
                    if (bySet[left] != due) {
                        left ^= 1 << findMate(one, left, due, state);
                    }
                }
            }
        }

        private int findMate(int one, int rest, int due, State state) {
            for (int other = one + 1; other < state.ships; other++) {
                if (pairedWith(one, other, rest, state) == due) {
                    mate[one] = other;
                    mate[other] = one;
                    return other;
                }
            }
            return one;
        }

        // -- KNOCKS and KNOCK

        static int knockValue(int blocks) {
            int worth = 0;
            int run = 0;
            for (int place = 0; place <= PLACES; place++) {
                if (place < PLACES && (blocks >> place & 1) == 1) {
                    run++;
                } else {
                    worth ^= ROW_VALUES[run];
                    run = 0;
                }
            }
            return worth;
        }

        static int winningKnock(int blocks) {
            for (int knock = 0; knock < 2 * PLACES; knock++) {
                int out = (knock % 2 == 0 ? 1 : 3) << knock / 2;
                if ((blocks & out) == out && knockValue(blocks & ~out) == 0) {
                    return knock;
                }
            }
            return NONE;
        }

        // -- RESTS and ODDS

        static int restingChoices(int length, int draught, int hands) {
            int set = 0;
            for (int choice = 0; choice < 4; choice++) {
                boolean masterStays = mastersShare(choice, length, draught, hands)
                        >= mastersShare(choice ^ 2, length, draught, hands);
                boolean pilotStays = pilotsShare(choice) >= pilotsShare(choice ^ 1);
                set |= masterStays && pilotStays ? 1 << choice : 0;
            }
            return set;
        }

        private static int mastersShare(int choice, int length, int draught, int hands) {
            switch (choice) {
                case 0: return length;
                case 1: return -3;
                case 2: return -draught;
                default: return hands;
            }
        }

        private static int pilotsShare(int choice) {
            switch (choice) {
                case 0: return 2;
                case 2: return -1;
                default: return 1;
            }
        }

        /** Of all equally likely draws of n hours, those with a surge in k hours at least, in ten thousandths. */
        static int oddsOf(int n, int k, int surge) {
            int all = 1;
            for (int i = 0; i < n; i++) {
                all *= surge + 1;
            }
            int with = 0;
            for (int hit = k; hit <= n; hit++) {
                with += choices(n, hit) * power(surge, hit);
            }
            return all > 0 ? 10000 * with / all : 0;
        }

        private static int power(int base, int n) {
            int product = 1;
            for (int i = 0; i < n; i++) {
                product *= base;
            }
            return product;
        }

        private static int choices(int n, int k) {
            int ways = 1;
            for (int i = 1; i <= k; i++) {
                ways = ways * (n - k + i) / i;
            }
            return ways;
        }
    }
}
