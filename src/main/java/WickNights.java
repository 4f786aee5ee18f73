import java.util.Arrays;
import java.util.NoSuchElementException;

/** A coast that is paid for by the hour of dark; ../shared/DOC.md tells what each call promises. */
public final class WickNights {
    public static final int NONE = -1;

    private static final int TAPE_BYTES = 600;
    private static final int FED_BYTES = 20;
    private static final int WORK_BYTES = 150;
    private static final int LAW_BYTES = 150;
    private static final int BOOK_BYTES = 100;

    private static final int CLAUSES_MOST = 60;
    private static final int PLACES_MOST = 6;
    private static final int WANTS_MOST = 12;
    private static final int MINES_MOST = 3;
    private static final int MOONS_MOST = 3;
    private static final int LINES_MOST = 6;
    private static final int OPEN_MOST = 6;
    private static final int STEPS_BEGUN_MOST = 200;
    private static final int WORKS_MOST = 16;
    private static final int IMAGES_MOST = 3;
    private static final int HOURS_MOST = 999;
    private static final int MONTHS_OF_YEAR = 12;
    private static final int LAST_DAY = 9999;
    private static final int PRICE_MOST = 100;
    private static final int SIXTEENTHS = 16;
    private static final int NIGHTS_ASKED_MOST = 40;
    private static final int TOLD_PRICES = 21;

    private static final int CANNOT_STAND = 1;
    private static final int NONE_SUCH = 2;
    private static final int TOO_MANY = 3;

    // Columns of what a coast tells.
    private static final int X = 0;
    private static final int FIRST_GOOD = 1;
    private static final int FIRST_WATERED = 2;
    private static final int COMES = 3;
    private static final int WHERE = 0;
    private static final int LONG = 1;
    private static final int GOOD_ALONE = 2;
    private static final int WORTH = 3;
    private static final int FIRST_LEFT = 1;
    private static final int OPENS = 2;
    private static final int CYCLE = 0;
    private static final int REST = 1;

    // Columns of what changes.
    private static final int GOOD = 0;
    private static final int WATERED = 1;
    private static final int LEAKED = 2;
    private static final int OPEN = 0;
    private static final int SOLD = 1;
    private static final int LEFT = 0;
    private static final int DUG = 1;

    private final Tape tape = new Tape();
    private final Shore shore = new Shore();
    private final Market market = new Market(shore);
    private final Nights packing = new Nights(shore);
    private final Program program = new Program();
    private final Coast spareCoast = new Coast();
    private final Law spareLaw = new Law();
    private final Book register = new Book();
    private final Book spareBook = new Book();
    private final Past past = new Past();
    private final Past[] kept = new Past[IMAGES_MOST];
    private final int[] lookRow = new int[NIGHTS_ASKED_MOST + 1];
    private int images;
    private int faultAt = NONE;
    private int stepsRefused;
    private int missingRefused;
    private int wrongRefused;

    public WickNights() {
    }

    // ---- texts ----

    public int feed(int a, int b, int c, int d, int e) {
        if (tape.size + FED_BYTES > TAPE_BYTES) {
            return NONE;
        }
        tape.append(a);
        tape.append(b);
        tape.append(c);
        tape.append(d);
        tape.append(e);
        return tape.size;
    }

    public int coast(int n) throws IllegalArgumentException {
        need(isText(n, TAPE_BYTES));
        tape.begin(n);
        spareCoast.read(tape);
        int answer = endText();
        if (answer != 0) {
            return answer;
        }
        shore.begin(spareCoast);
        register.clear();
        past.size = 0;
        images = 0;
        stepsRefused = 0;
        return shore.coast.places.rows;
    }

    public int law(int which, int n) throws IllegalArgumentException {
        need(isWithin(which, 0, 1) && isText(n, LAW_BYTES));
        tape.begin(n);
        spareLaw.read(tape);
        int answer = endText();
        if (answer != 0) {
            return answer;
        }
        Law told = which == 0 ? shore.arrive : shore.dig;
        told.copyFrom(spareLaw);
        return 1;
    }

    public int work(int n) throws IllegalArgumentException {
        need(isText(n, WORK_BYTES));
        tape.begin(n);
        if (past.size >= WORKS_MOST) {
            endText();
            return -20;
        }
        program.read(tape, shore.coast);
        int answer = endText();
        if (answer != 0) {
            return answer;
        }
        past.push(shore.state);
        program.runSteps(shore, 0, program.steps.rows, 0);
        stepsRefused = program.refused;
        return program.done;
    }

    public int book(int n) throws IllegalArgumentException {
        need(isText(n, BOOK_BYTES));
        tape.begin(n);
        spareBook.read(tape, shore.coast.places.rows);
        int answer = endText();
        if (answer != 0) {
            return answer;
        }
        register.copyFrom(spareBook);
        return register.lines;
    }

    public int fault() {
        return faultAt;
    }

    public int undo() {
        if (past.size == 0) {
            return NONE;
        }
        past.pop(shore.state);
        stepsRefused = 0;
        return past.size;
    }

    // ---- what is where ----

    public int told(int what) throws IllegalArgumentException {
        switch (what) {
            case 0:
                return shore.coast.places.rows;
            case 1:
                return shore.coast.wants.rows;
            case 2:
                return shore.coast.mines.rows;
            case 3:
                return shore.coast.moonRows.rows;
            case 4:
                return shore.state.month;
            case 5:
                return shore.state.pence;
            case 6:
                return shore.state.hours.sum(GOOD);
            case 7:
                return shore.state.hours.sum(WATERED);
            case 8:
                return register.lines;
            case 9:
                return stepsRefused;
            default:
                need(false);
                return NONE;
        }
    }

    public int place(int place, int what) throws NoSuchElementException, IllegalArgumentException {
        needPlace(place);
        switch (what) {
            case 0:
                return shore.coast.places.at(place, X);
            case 1:
                return shore.state.hours.at(place, GOOD);
            case 2:
                return shore.state.hours.at(place, WATERED);
            case 3:
                return shore.coast.places.at(place, COMES);
            case 4:
                return shore.state.hours.at(place, LEAKED);
            case 5:
                return shore.hoursWanted(place, 0);
            default:
                need(false);
                return NONE;
        }
    }

    public int want(int want, int what) throws NoSuchElementException, IllegalArgumentException {
        needWant(want);
        switch (what) {
            case 0:
                return shore.coast.wants.at(want, WHERE);
            case 1:
                return shore.coast.wants.at(want, LONG);
            case 2:
                return shore.coast.wants.at(want, GOOD_ALONE);
            case 3:
                return shore.coast.wants.at(want, WORTH);
            case 4:
                return shore.state.wants.at(want, OPEN);
            case 5:
                return shore.state.wants.at(want, SOLD);
            default:
                need(false);
                return NONE;
        }
    }

    public int mine(int mine, int what) throws NoSuchElementException, IllegalArgumentException {
        needMine(mine);
        switch (what) {
            case 0:
                return shore.coast.mines.at(mine, WHERE);
            case 1:
                return shore.state.seams.at(mine, LEFT);
            case 2:
                return shore.coast.mines.at(mine, OPENS);
            case 3:
                return shore.isMineOpen(mine, shore.state.month) ? 1 : 0;
            case 4:
                return shore.state.seams.at(mine, DUG);
            default:
                need(false);
                return NONE;
        }
    }

    public int arrives(int place, int other, int n, int good) throws NoSuchElementException, IllegalArgumentException {
        needPlace(place);
        needPlace(other);
        need(place != other && isWithin(n, 0, HOURS_MOST) && isWithin(good, 0, 1));
        return shore.arriving(place, other, n, good);
    }

    public int digs(int mine, int k) throws NoSuchElementException, IllegalArgumentException {
        needMine(mine);
        need(isWithin(k, 0, 9));
        return shore.comingOut(k, shore.state.seams.at(mine, LEFT), shore.state.month);
    }

    public boolean can(int want) throws NoSuchElementException {
        needWant(want);
        return shore.isSaleable(want);
    }

    // ---- trade ----

    public int sales(int what) throws IllegalArgumentException {
        need(isWithin(what, 0, 1));
        return what == 0 ? market.bestWorth(NONE, 0) : market.bestBits();
    }

    public int more(int place, int n) throws NoSuchElementException, IllegalArgumentException {
        needPlace(place);
        need(isWithin(n, 0, 99));
        return market.bestWorth(place, n);
    }

    public int brings(int place, int other, int what) throws NoSuchElementException, IllegalArgumentException {
        needPlace(place);
        needPlace(other);
        need(place != other && isWithin(what, 0, 1));
        market.findBestCarrying(place, other);
        return what == 0 ? market.carried : market.worthBehind;
    }

    public int price(int place) throws NoSuchElementException {
        needPlace(place);
        return market.clearingPrice(place);
    }

    public int corner(int place, int v) throws NoSuchElementException, IllegalArgumentException {
        needPlace(place);
        need(isWithin(v, 0, PRICE_MOST));
        return market.hoursToCorner(place, v);
    }

    public long option(int s, int u, int d, int q, int k, int t, int part) throws IllegalArgumentException {
        need(isOption(s, u, d, q, k, t) && isWithin(part, 0, 1));
        return partOfFraction(optionWorth(s, u, d, q, k, t, false), t, part);
    }

    public long late(int s, int u, int d, int q, int k, int t, int part) throws IllegalArgumentException {
        need(isOption(s, u, d, q, k, t) && isWithin(part, 0, 1));
        return partOfFraction(optionWorth(s, u, d, q, k, t, true), t, part);
    }

    public boolean now(int s, int u, int d, int q, int k, int t) throws IllegalArgumentException {
        need(isOption(s, u, d, q, k, t));
        return s > k && (s - k) * scale(t) >= optionWorth(s, u, d, q, k, t, false);
    }

    public int sellers(int place, int n, int what) throws NoSuchElementException, IllegalArgumentException {
        needPlace(place);
        need(isWithin(n, 0, TOLD_PRICES - 1) && isWithin(what, 0, 2));
        market.findRests(place, n);
        if (what == 0) {
            return market.rests;
        }
        return what == 1 ? market.firstRest : market.firstGets;
    }

    public int gets(int place, int own, int other) throws NoSuchElementException, IllegalArgumentException {
        needPlace(place);
        need(isWithin(own, 0, 99) && isWithin(other, 0, 99));
        return market.gained(place, own, other);
    }

    // ---- nights, looks, leaks, shafts ----

    public int nights(int place, int n) throws NoSuchElementException, IllegalArgumentException {
        needPlace(place);
        need(isWithin(n, 1, Nights.LONGEST));
        packing.pack(place, n);
        return packing.fewest;
    }

    public int night(int want, int n) throws NoSuchElementException, IllegalArgumentException {
        needWant(want);
        need(isWithin(n, 1, Nights.LONGEST));
        packing.pack(shore.coast.wants.at(want, WHERE), n);
        return packing.nightOf(want);
    }

    public int looks(int n, int m, int what) throws IllegalArgumentException {
        need(isWithin(n, 1, NIGHTS_ASKED_MOST) && isWithin(m, 1, NIGHTS_ASKED_MOST) && isWithin(what, 0, 1));
        int first = 0;
        for (int many = 2; many <= n; many++) {
            first = firstLook(many, m);
            lookRow[many] = looksBehind(many, first);
        }
        return what == 0 ? lookRow[n] : first;
    }

    public int leaky(int what) throws IllegalArgumentException {
        need(isWithin(what, 0, 3));
        return register.leakySets(shore.coast, what);
    }

    public int misses(int place, int leaks) throws NoSuchElementException, IllegalArgumentException {
        needPlace(place);
        need(leaks >= 0 && leaks >> shore.coast.places.rows == 0);
        return shore.coast.missing(place, leaks);
    }

    public int seam(int mine, int n, int k, int what) throws NoSuchElementException, IllegalArgumentException {
        needMine(mine);
        need(isWithin(n, 1, 4) && isWithin(k, 0, 9) && isWithin(what, 0, 1));
        shore.findShafts(mine, n, k);
        return what == 0 ? shore.bestGain : shore.bestShafts;
    }

    // ---- the sky ----

    public int moons(int day) throws IllegalArgumentException {
        need(isDay(day));
        return shore.coast.moonsOn(day);
    }

    public int dark(int day) throws IllegalArgumentException {
        need(isDay(day));
        return shore.coast.firstDay(day, 0);
    }

    public int bright(int day) throws IllegalArgumentException {
        need(isDay(day));
        return shore.coast.firstDay(day, (1 << shore.coast.moonRows.rows) - 1);
    }

    public int darks(int from, int to) throws IllegalArgumentException {
        need(isDay(from) && isDay(to) && from <= to);
        int many = 0;
        for (int day = from; day <= to; day++) {
            if (shore.coast.moonsOn(day) == 0) {
                many++;
            }
        }
        return many;
    }

    public int clouds(int seed, int q, int day, int n, int what) throws IllegalArgumentException {
        need(isCloudSpan(q, day, n) && isWithin(what, 0, 2));
        return shore.coast.clouded(seed, q, day, n, what);
    }

    public int span(int seed, int many, int q, int day, int n, int what) throws IllegalArgumentException {
        need(isWithin(many, 1, 40) && isCloudSpan(q, day, n) && isWithin(what, 0, 2));
        int fewest = n;
        int most = 0;
        int all = 0;
        for (int i = 0; i < many; i++) {
            int darkDays = shore.coast.clouded(seed + i, q, day, n, 0);
            fewest = Math.min(fewest, darkDays);
            most = Math.max(most, darkDays);
            all += darkDays;
        }
        if (what == 0) {
            return fewest;
        }
        return what == 1 ? most : all;
    }

    // ---- what comes, what is chosen ----

    public int ahead(int place, int months, int what) throws NoSuchElementException, IllegalArgumentException {
        needPlace(place);
        need(isWithin(months, 0, 60) && isWithin(what, 0, 1));
        int kind = what == 0 ? GOOD : WATERED;
        int hours = shore.state.hours.at(place, kind);
        for (int i = 0; i < months; i++) {
            hours = shore.behindMonth(place, kind, hours);
        }
        return hours;
    }

    public int chosen(int what) throws IllegalArgumentException {
        need(isWithin(what, 0, 1));
        return what == 0 ? shore.fullestPlace() : shore.dearestWant();
    }

    // ---- images, counts ----

    public int image() {
        if (!isWithin(images, 0, IMAGES_MOST - 1)) {
            return NONE;
        }
        if (kept[images] == null) {
            kept[images] = new Past();
        }
        kept[images].copyFrom(past);
        kept[images].push(shore.state);
        images++;
        return images;
    }

    public int restore() {
        if (!isWithin(images, 1, IMAGES_MOST) || kept[images - 1] == null) {
            return NONE;
        }
        images--;
        kept[images].pop(shore.state);
        past.copyFrom(kept[images]);
        stepsRefused = 0;
        return images;
    }

    public int status(int what) {
        if (what == 0) {
            return missingRefused;
        }
        return what == 1 ? wrongRefused : NONE;
    }

    public int count(int what) {
        switch (what) {
            case 0:
                return images;
            case 1:
                return tape.size;
            case 2:
                return past.size;
            default:
                return NONE;
        }
    }

    // ---- refusals ----

    private void need(boolean fine) {
        if (!fine) {
            wrongRefused++;
            throw new IllegalArgumentException();
        }
    }

    private void needSuch(boolean there) {
        if (!there) {
            missingRefused++;
            throw new NoSuchElementException();
        }
    }

    private void needPlace(int place) {
        needSuch(shore.coast.places.has(place));
    }

    private void needWant(int want) {
        needSuch(shore.coast.wants.has(want));
    }

    private void needMine(int mine) {
        needSuch(shore.coast.mines.has(mine));
    }

    private static boolean isWithin(int value, int least, int most) {
        return value >= least && value <= most;
    }

    private static boolean isDay(int day) {
        return isWithin(day, 0, LAST_DAY);
    }

    private static boolean isCloudSpan(int q, int day, int n) {
        return isWithin(q, 0, SIXTEENTHS) && isDay(day) && isWithin(n, 1, 60);
    }

    private boolean isText(int n, int most) {
        return isWithin(n, 0, most) && n <= tape.size;
    }

    /** Empties the tape and keeps where the fault is: 0, or the fault less 10. */
    private int endText() {
        faultAt = tape.faultKind == 0 ? NONE : tape.faultSpot;
        tape.size = 0;
        return tape.faultKind == 0 ? 0 : tape.faultKind - 10;
    }

    // ---- options: worths are kept times 16 to the hours, so that they stay whole ----

    private static boolean isOption(int s, int u, int d, int q, int k, int t) {
        return isWithin(s, 0, 999) && isWithin(u, 0, 99) && isWithin(d, 0, 99)
            && isWithin(q, 0, SIXTEENTHS) && isWithin(k, 0, 999) && isWithin(t, 0, 6);
    }

    private static long scale(int t) {
        return 1L << (4 * t);
    }

    private static long optionWorth(int s, int u, int d, int q, int k, int t, boolean atLast) {
        long used = Math.max(s - k, 0) * scale(t);
        if (t <= 0) {
            return used;
        }
        long up = optionWorth(s + u, u, d, q, k, t - 1, atLast);
        long down = optionWorth(Math.max(s - d, 0), u, d, q, k, t - 1, atLast);
        long waited = q * up + (SIXTEENTHS - q) * down;
        return atLast ? waited : Math.max(used, waited);
    }

    private static long partOfFraction(long worth, int t, int part) {
        long above = worth;
        long below = scale(t);
        for (int halved = 0; halved < 4 * t && above % 2 == 0; halved++) {
            above /= 2;
            below /= 2;
        }
        return part == 0 ? above : below;
    }

    // ---- looks: lookRow holds the fewest looks for each number of nights; for none or one it is never written ----

    private int firstLook(int many, int m) {
        int best = 1;
        for (int seen = 2; seen <= m && seen < many; seen++) {
            if (looksBehind(many, seen) < looksBehind(many, best)) {
                best = seen;
            }
        }
        return best;
    }

    private int looksBehind(int many, int seen) {
        return seen > 0 && seen < many && many < lookRow.length
            ? 1 + Math.max(lookRow[seen], lookRow[many - seen]) : 0;
    }

    /** Rows of whole numbers; a cell that is not there reads as 0 and can't be written. */
    private static final class Table {
        private final int[] cells;
        private final int wide;
        private int rows;

        private Table(int[] cells, int wide) {
            this.cells = cells;
            this.wide = wide;
        }

        private boolean has(int row) {
            return row >= 0 && row < rows;
        }

        private boolean isFull() {
            return (rows + 1) * wide > cells.length;
        }

        /** The number of one more row; NONE if there is no room. */
        private int newRow() {
            if (isFull()) {
                return NONE;
            }
            rows++;
            return rows - 1;
        }

        private int at(int row, int column) {
            int cell = row * wide + column;
            return cell >= 0 && cell < cells.length ? cells[cell] : 0;
        }

        private void put(int row, int column, int value) {
            int cell = row * wide + column;
            if (cell >= 0 && cell < cells.length) {
                cells[cell] = value;
            }
        }

        private void add(int row, int column, int value) {
            put(row, column, at(row, column) + value);
        }

        private int sum(int column) {
            int all = 0;
            for (int row = 0; row < rows; row++) {
                all += at(row, column);
            }
            return all;
        }

        private void copyFrom(Table other) {
            rows = other.rows;
            System.arraycopy(other.cells, 0, cells, 0, Math.min(other.cells.length, cells.length));
        }

        private void clear() {
            rows = 0;
            Arrays.fill(cells, 0);
        }
    }

    /** The bytes that were fed, and the reading of a text from them; of its faults the first is kept. */
    private static final class Tape {
        private static final int NUMBER_BOUND = 100000;

        private final byte[] bytes = new byte[TAPE_BYTES];
        private int size;
        private int end;
        private int at;
        private int wordFrom;
        private int faultKind;
        private int faultSpot;

        private void append(int number) {
            for (int shift = 24; shift >= 0 && size < bytes.length; shift -= 8) {
                bytes[size] = (byte) (number >> shift);
                size++;
            }
        }

        private void begin(int n) {
            end = Math.min(n, bytes.length);
            at = 0;
            wordFrom = 0;
            faultKind = 0;
            faultSpot = 0;
        }

        private boolean isWell() {
            return faultKind == 0;
        }

        private void refuse(int kind, int spot) {
            if (faultKind == 0) {
                faultKind = kind;
                faultSpot = spot;
            }
        }

        private int byteAt(int spot) {
            return spot >= 0 && spot < end && spot < bytes.length ? bytes[spot] & 255 : NONE;
        }

        /** Goes over blanks to the next sign: NONE at the end, and behind a fault. */
        private int next() {
            while (at < end && at < bytes.length && bytes[at] == ' ') {
                at++;
            }
            return faultKind == 0 && at < end && at < bytes.length ? bytes[at] & 255 : NONE;
        }

        private void takeSign(int sign) {
            if (next() == sign) {
                at++;
            } else {
                refuse(CANNOT_STAND, at);
            }
        }

        /** The number that stands next; a fault, if there is none or it is not least to most. */
        private int takeNumber(int least, int most) {
            if (!isWithin(next(), '0', '9')) {
                refuse(CANNOT_STAND, at);
                return 0;
            }
            int from = at;
            int value = 0;
            while (at < end && isWithin(byteAt(at), '0', '9')) {
                value = Math.min(value * 10 + byteAt(at) - '0', NUMBER_BOUND);
                at++;
            }
            if (!isWithin(value, least, most)) {
                refuse(NONE_SUCH, from);
            }
            return value;
        }

        /** Goes over the word that stands next, which isWord compares; none is a fault. */
        private void takeWord() {
            if (!isWithin(next(), 'a', 'z')) {
                refuse(CANNOT_STAND, at);
            }
            wordFrom = at;
            while (at < end && isWithin(byteAt(at), 'a', 'z')) {
                at++;
            }
        }

        private boolean isWord(String name) {
            if (at - wordFrom != name.length()) {
                return false;
            }
            for (int i = 0; i < name.length(); i++) {
                if (byteAt(wordFrom + i) != name.charAt(i)) {
                    return false;
                }
            }
            return true;
        }
    }

    /** What the text of a coast tells, which no work changes. */
    private static final class Coast {
        private final Table places = new Table(new int[PLACES_MOST * 4], 4);
        private final Table wants = new Table(new int[WANTS_MOST * 4], 4);
        private final Table mines = new Table(new int[MINES_MOST * 3], 3);
        private final Table moonRows = new Table(new int[MOONS_MOST * 2], 2);
        private int leak = 1;
        private int shaft = 3;

        private void read(Tape tape) {
            places.clear();
            wants.clear();
            mines.clear();
            moonRows.clear();
            leak = 1;
            shaft = 3;
            int clauses = 0;
            while (clauses <= TAPE_BYTES && tape.next() != NONE) {
                readClause(tape, clauses >= CLAUSES_MOST);
                tape.takeSign(';');
                clauses++;
            }
        }

        private void readClause(Tape tape, boolean tooMany) {
            tape.takeWord();
            if (!tape.isWell()) {
                return;
            }
            if (tape.isWord("place")) {
                readPlace(tape, tooMany);
            } else if (tape.isWord("want")) {
                readWant(tape, tooMany);
            } else if (tape.isWord("mine")) {
                readMine(tape, tooMany);
            } else if (tape.isWord("moon")) {
                readMoon(tape, tooMany);
            } else if (tape.isWord("leaks")) {
                leak = readSetting(tape, tooMany, 8);
            } else if (tape.isWord("shaft")) {
                shaft = readSetting(tape, tooMany, 99);
            } else {
                tape.refuse(CANNOT_STAND, tape.wordFrom);
            }
        }

        private void readPlace(Tape tape, boolean tooMany) {
            int row = beginRow(tape, places, tooMany);
            places.put(row, X, tape.takeNumber(0, 40));
            places.put(row, FIRST_GOOD, tape.takeNumber(0, 99));
            places.put(row, FIRST_WATERED, tape.takeNumber(0, 99));
            places.put(row, COMES, tape.takeNumber(0, 99));
        }

        private void readWant(Tape tape, boolean tooMany) {
            int row = beginRow(tape, wants, tooMany);
            wants.put(row, WHERE, tape.takeNumber(0, places.rows - 1));
            wants.put(row, LONG, tape.takeNumber(1, 12));
            wants.put(row, GOOD_ALONE, tape.takeNumber(0, 1));
            wants.put(row, WORTH, tape.takeNumber(0, 99));
        }

        private void readMine(Tape tape, boolean tooMany) {
            int row = beginRow(tape, mines, tooMany);
            mines.put(row, WHERE, tape.takeNumber(0, places.rows - 1));
            mines.put(row, FIRST_LEFT, tape.takeNumber(0, 400));
            mines.put(row, OPENS, tape.takeNumber(0, MONTHS_OF_YEAR - 1));
        }

        private void readMoon(Tape tape, boolean tooMany) {
            int row = beginRow(tape, moonRows, tooMany);
            int cycle = tape.takeNumber(1, 30);
            moonRows.put(row, CYCLE, cycle);
            moonRows.put(row, REST, tape.takeNumber(0, cycle - 1));
        }

        private static int readSetting(Tape tape, boolean tooMany, int most) {
            if (tooMany) {
                tape.refuse(TOO_MANY, tape.wordFrom);
            }
            return tape.takeNumber(0, most);
        }

        private static int beginRow(Tape tape, Table table, boolean tooMany) {
            if (tooMany || table.isFull()) {
                tape.refuse(TOO_MANY, tape.wordFrom);
            }
            return table.newRow();
        }

        private void copyFrom(Coast other) {
            places.copyFrom(other.places);
            wants.copyFrom(other.wants);
            mines.copyFrom(other.mines);
            moonRows.copyFrom(other.moonRows);
            leak = other.leak;
            shaft = other.shaft;
        }

        private int milesBetween(int place, int other) {
            return Math.abs(places.at(place, X) - places.at(other, X));
        }

        private boolean standsAhead(int place, int other) {
            int miles = places.at(place, X);
            int otherMiles = places.at(other, X);
            return miles < otherMiles || miles == otherMiles && place < other;
        }

        /** The next place in the row on one side; NONE at its end. */
        private int neighbour(int place, boolean before) {
            int found = NONE;
            for (int other = 0; other < places.rows; other++) {
                if (other != place && standsAhead(other, place) == before
                    && (found == NONE || standsAhead(found, other) == before)) {
                    found = other;
                }
            }
            return found;
        }

        private int missing(int place, int leaks) {
            return 2 * bitOf(leaks, place)
                + bitOf(leaks, neighbour(place, true)) + bitOf(leaks, neighbour(place, false));
        }

        private static int bitOf(int bits, int which) {
            return which >= 0 ? bits >> which & 1 : 0;
        }

        private int moonsOn(int day) {
            int bits = 0;
            for (int moon = 0; moon < moonRows.rows; moon++) {
                int cycle = moonRows.at(moon, CYCLE);
                if (cycle > 0 && day % cycle == moonRows.at(moon, REST)) {
                    bits |= 1 << moon;
                }
            }
            return bits;
        }

        private int firstDay(int from, int bits) {
            for (int day = from; day <= LAST_DAY; day++) {
                if (moonsOn(day) == bits) {
                    return day;
                }
            }
            return NONE;
        }

        private int clouded(int seed, int q, int from, int n, int what) {
            int drawn = seed;
            int darkDays = 0;
            int row = 0;
            int longest = 0;
            int needless = 0;
            for (int i = 0; i < n; i++) {
                drawn = drawn * 1103515245 + 12345;
                boolean cloudy = (drawn >>> 16 & 32767) % SIXTEENTHS < q;
                boolean moonless = moonsOn(from + i) == 0;
                row = cloudy || moonless ? row + 1 : 0;
                darkDays += row > 0 ? 1 : 0;
                longest = Math.max(longest, row);
                needless += cloudy && moonless ? 1 : 0;
            }
            if (what == 0) {
                return darkDays;
            }
            return what == 1 ? longest : needless;
        }
    }

    /** A law as a row of codes, operands ahead of their operator; without codes none was told. */
    private static final class Law {
        private static final int INPUT = 1000;
        private static final int PLUS = 2000;
        private static final int MINUS = 2001;
        private static final int TIMES = 2002;
        private static final int BY = 2003;
        private static final int LEAST = 2004;
        private static final int MOST = 2005;
        private static final int INPUTS = 7;

        private final int[] codes = new int[LAW_BYTES];
        private final int[] inputs = new int[INPUTS];
        // Six brackets leave at most three numbers open each, and three within.
        private final int[] stack = new int[32];
        private int length;
        private int height;

        private void read(Tape tape) {
            length = 0;
            readSum(tape, 0);
            if (tape.next() != NONE) {
                tape.refuse(CANNOT_STAND, tape.at);
            }
        }

        private void readSum(Tape tape, int open) {
            readProduct(tape, open);
            for (int i = 0; i < LAW_BYTES && (tape.next() == '+' || tape.next() == '-'); i++) {
                int code = tape.next() == '+' ? PLUS : MINUS;
                tape.takeSign(tape.next());
                readProduct(tape, open);
                append(code);
            }
        }

        private void readProduct(Tape tape, int open) {
            readUnit(tape, open);
            for (int i = 0; i < LAW_BYTES && (tape.next() == '*' || tape.next() == '/'); i++) {
                int code = tape.next() == '*' ? TIMES : BY;
                tape.takeSign(tape.next());
                readUnit(tape, open);
                append(code);
            }
        }

        private void readUnit(Tape tape, int open) {
            int sign = tape.next();
            if (isWithin(sign, '0', '9')) {
                append(tape.takeNumber(0, INPUT - 1));
            } else if (isWithin(sign, 'a', 'z')) {
                readWord(tape, open);
            } else if (sign == '(') {
                readBracket(tape, open);
            } else {
                tape.refuse(CANNOT_STAND, tape.at);
            }
        }

        private void readBracket(Tape tape, int open) {
            if (open >= OPEN_MOST) {
                tape.refuse(TOO_MANY, tape.at);
                return;
            }
            tape.takeSign('(');
            readSum(tape, open + 1);
            tape.takeSign(')');
        }

        private void readWord(Tape tape, int open) {
            tape.takeWord();
            if (tape.isWord("least")) {
                readPair(tape, open, LEAST);
            } else if (tape.isWord("most")) {
                readPair(tape, open, MOST);
            } else {
                int input = inputNamed(tape);
                if (input == NONE) {
                    tape.refuse(CANNOT_STAND, tape.wordFrom);
                }
                append(INPUT + input);
            }
        }

        private void readPair(Tape tape, int open, int code) {
            if (open >= OPEN_MOST) {
                tape.refuse(TOO_MANY, tape.wordFrom);
                return;
            }
            tape.takeSign('[');
            readSum(tape, open + 1);
            tape.takeSign(',');
            readSum(tape, open + 1);
            tape.takeSign(']');
            append(code);
        }

        private static int inputNamed(Tape tape) {
            if (tape.isWord("hours")) {
                return 0;
            }
            if (tape.isWord("far")) {
                return 1;
            }
            if (tape.isWord("good")) {
                return 2;
            }
            if (tape.isWord("shafts")) {
                return 3;
            }
            if (tape.isWord("left")) {
                return 4;
            }
            if (tape.isWord("month")) {
                return 5;
            }
            return tape.isWord("year") ? 6 : NONE;
        }

        private void append(int code) {
            if (length < codes.length) {
                codes[length] = code;
                length++;
            }
        }

        private void copyFrom(Law other) {
            length = other.length;
            System.arraycopy(other.codes, 0, codes, 0, Math.min(other.codes.length, codes.length));
        }

        private boolean isTold() {
            return length > 0;
        }

        private int value(int hours, int far, int good, int shafts, int left, int month) {
            inputs[0] = hours;
            inputs[1] = far;
            inputs[2] = good;
            inputs[3] = shafts;
            inputs[4] = left;
            inputs[5] = month % MONTHS_OF_YEAR;
            inputs[6] = month / MONTHS_OF_YEAR;
            height = 0;
            for (int i = 0; i < length && i < codes.length; i++) {
                int code = codes[i];
                if (code < INPUT) {
                    push(code);
                } else if (code < PLUS) {
                    push(code - INPUT < inputs.length ? inputs[code - INPUT] : 0);
                } else {
                    int right = pop();
                    push(joined(code, pop(), right));
                }
            }
            return pop();
        }

        private static int joined(int code, int left, int right) {
            switch (code) {
                case PLUS:
                    return left + right;
                case MINUS:
                    return left - right;
                case TIMES:
                    return left * right;
                case BY:
                    return right == 0 ? 0 : left / right;
                case LEAST:
                    return Math.min(left, right);
                default:
                    return Math.max(left, right);
            }
        }

        private void push(int value) {
            if (height >= 0 && height < stack.length) {
                stack[height] = value;
                height++;
            }
        }

        private int pop() {
            if (height <= 0 || height > stack.length) {
                return 0;
            }
            height--;
            return stack[height];
        }
    }

    /** How many hours are told to be missing at each place. */
    private static final class Book {
        private final int[] missing = new int[PLACES_MOST];
        private int lines;

        private Book() {
            Arrays.fill(missing, NONE);
        }

        private void clear() {
            lines = 0;
            Arrays.fill(missing, NONE);
        }

        private void copyFrom(Book other) {
            lines = other.lines;
            System.arraycopy(other.missing, 0, missing, 0, Math.min(other.missing.length, missing.length));
        }

        private void read(Tape tape, int places) {
            clear();
            for (int i = 0; i <= BOOK_BYTES && tape.next() != NONE; i++) {
                int from = tape.at;
                int place = tape.takeNumber(0, places - 1);
                if (tape.isWell()) {
                    begin(tape, place, from);
                }
                int hours = tape.takeNumber(0, 99);
                tape.takeSign(';');
                if (tape.isWell() && place < missing.length) {
                    missing[place] = hours;
                    lines++;
                }
            }
        }

        private void begin(Tape tape, int place, int from) {
            if (place < 0 || place >= missing.length || missing[place] != NONE) {
                tape.refuse(NONE_SUCH, from);
            } else if (lines >= LINES_MOST) {
                tape.refuse(TOO_MANY, from);
            }
        }

        private boolean isRight(Coast coast, int leaks) {
            for (int place = 0; place < coast.places.rows && place < missing.length; place++) {
                if (missing[place] != NONE && missing[place] != coast.missing(place, leaks)) {
                    return false;
                }
            }
            return true;
        }

        /** 0 how many sets, 1 the first, 2 what is in all of them, 3 what is in none. */
        private int leakySets(Coast coast, int what) {
            int everywhere = (1 << coast.places.rows) - 1;
            int sets = 0;
            int first = NONE;
            int inAll = everywhere;
            int inSome = 0;
            for (int leaks = 0; leaks <= everywhere; leaks++) {
                if (isRight(coast, leaks)) {
                    first = sets == 0 ? leaks : first;
                    inAll &= leaks;
                    inSome |= leaks;
                    sets++;
                }
            }
            if (what == 0) {
                return sets;
            }
            if (what == 1) {
                return first;
            }
            if (sets == 0) {
                return 0;
            }
            return what == 2 ? inAll : everywhere & ~inSome;
        }
    }

    /** What work changes. */
    private static final class State {
        private final Table hours = new Table(new int[PLACES_MOST * 3], 3);
        private final Table wants = new Table(new int[WANTS_MOST * 2], 2);
        private final Table seams = new Table(new int[MINES_MOST * 2], 2);
        private int month;
        private int pence;

        private void begin(Coast coast) {
            hours.clear();
            wants.clear();
            seams.clear();
            hours.rows = coast.places.rows;
            wants.rows = coast.wants.rows;
            seams.rows = coast.mines.rows;
            for (int place = 0; place < hours.rows; place++) {
                hours.put(place, GOOD, coast.places.at(place, FIRST_GOOD));
                hours.put(place, WATERED, coast.places.at(place, FIRST_WATERED));
            }
            for (int mine = 0; mine < seams.rows; mine++) {
                seams.put(mine, LEFT, coast.mines.at(mine, FIRST_LEFT));
            }
            openWants();
            month = 0;
            pence = 0;
        }

        private void openWants() {
            for (int want = 0; want < wants.rows; want++) {
                wants.put(want, OPEN, 1);
            }
        }

        private void bring(int place, int kind, int many) {
            hours.put(place, kind, Math.min(hours.at(place, kind) + many, HOURS_MOST));
        }

        private void copyFrom(State other) {
            hours.copyFrom(other.hours);
            wants.copyFrom(other.wants);
            seams.copyFrom(other.seams);
            month = other.month;
            pence = other.pence;
        }
    }

    /** States one upon another: ahead of each work, or, with that of the hour on top, an image. */
    private static final class Past {
        private final State[] states = new State[WORKS_MOST + 1];
        private int size;

        private void push(State state) {
            if (size < 0 || size >= states.length) {
                return;
            }
            if (states[size] == null) {
                states[size] = new State();
            }
            states[size].copyFrom(state);
            size++;
        }

        private void pop(State state) {
            if (size <= 0 || size > states.length || states[size - 1] == null) {
                return;
            }
            size--;
            state.copyFrom(states[size]);
        }

        private void copyFrom(Past other) {
            size = 0;
            for (int i = 0; i < other.size && i < other.states.length; i++) {
                if (other.states[i] != null) {
                    push(other.states[i]);
                }
            }
        }
    }

    /** The coast, what is on it by now, and the laws by which it changes. */
    private static final class Shore {
        private final Coast coast = new Coast();
        private final State state = new State();
        private final Law arrive = new Law();
        private final Law dig = new Law();
        private int bestGain;
        private int bestShafts;

        private void begin(Coast told) {
            coast.copyFrom(told);
            state.begin(coast);
            arrive.length = 0;
            dig.length = 0;
        }

        private int arriving(int from, int to, int n, int good) {
            int far = coast.milesBetween(from, to);
            int arrived = arrive.isTold()
                ? arrive.value(n, far, good, 0, 0, state.month) : n - n * far / 40;
            return Math.max(0, Math.min(arrived, n));
        }

        private int comingOut(int shafts, int left, int month) {
            if (shafts == 0) {
                return 0;
            }
            int out = dig.isTold() ? dig.value(0, 0, 1, shafts, left, month) : shafts * 3;
            return Math.max(0, Math.min(out, left));
        }

        private boolean isMineOpen(int mine, int month) {
            return month % MONTHS_OF_YEAR >= coast.mines.at(mine, OPENS);
        }

        private boolean isOpenAt(int want, int place) {
            return state.wants.at(want, OPEN) == 1 && coast.wants.at(want, WHERE) == place;
        }

        private int hoursAt(int place) {
            return state.hours.at(place, GOOD) + state.hours.at(place, WATERED);
        }

        /** Hours of open wants at a place that are worth so much or more. */
        private int hoursWanted(int place, int worth) {
            int many = 0;
            for (int want = 0; want < coast.wants.rows; want++) {
                if (isOpenAt(want, place) && coast.wants.at(want, WORTH) >= worth) {
                    many += coast.wants.at(want, LONG);
                }
            }
            return many;
        }

        private boolean isSaleable(int want) {
            int place = coast.wants.at(want, WHERE);
            int there = coast.wants.at(want, GOOD_ALONE) == 1 ? state.hours.at(place, GOOD) : hoursAt(place);
            return state.wants.at(want, OPEN) == 1 && coast.wants.at(want, LONG) <= there;
        }

        // The steps: each tells whether it was done, and changes nothing if it was not.

        private boolean carryHours(int from, int to, int n, int kind) {
            if (state.hours.at(from, kind) < n) {
                return false;
            }
            state.hours.add(from, kind, -n);
            state.bring(to, kind, arriving(from, to, n, kind == GOOD ? 1 : 0));
            return true;
        }

        private boolean sellWant(int want) {
            if (!isSaleable(want)) {
                return false;
            }
            int place = coast.wants.at(want, WHERE);
            int hours = coast.wants.at(want, LONG);
            int watered = coast.wants.at(want, GOOD_ALONE) == 1
                ? 0 : Math.min(hours, state.hours.at(place, WATERED));
            state.hours.add(place, WATERED, -watered);
            state.hours.add(place, GOOD, watered - hours);
            state.pence += coast.wants.at(want, WORTH);
            state.wants.put(want, OPEN, 0);
            state.wants.add(want, SOLD, 1);
            return true;
        }

        private boolean waterHours(int place, int n) {
            if (state.hours.at(place, GOOD) < n) {
                return false;
            }
            state.hours.add(place, GOOD, -n);
            state.bring(place, WATERED, 2 * n);
            return true;
        }

        private boolean digShafts(int mine, int shafts) {
            int left = state.seams.at(mine, LEFT);
            if (!isMineOpen(mine, state.month) || left == 0) {
                return false;
            }
            int out = comingOut(shafts, left, state.month);
            state.pence -= shafts * coast.shaft;
            state.seams.add(mine, LEFT, -out);
            state.seams.add(mine, DUG, out);
            state.bring(coast.mines.at(mine, WHERE), GOOD, out);
            return true;
        }

        private int leaking(int hours) {
            return hours * coast.leak / 8;
        }

        private int behindMonth(int place, int kind, int hours) {
            int kept = hours - leaking(hours);
            return kind == GOOD ? Math.min(kept + coast.places.at(place, COMES), HOURS_MOST) : kept;
        }

        private void passMonth() {
            for (int place = 0; place < state.hours.rows; place++) {
                passMonthFor(place, GOOD);
                passMonthFor(place, WATERED);
            }
            state.openWants();
            state.month++;
        }

        private void passMonthFor(int place, int kind) {
            int hours = state.hours.at(place, kind);
            state.hours.add(place, LEAKED, leaking(hours));
            state.hours.put(place, kind, behindMonth(place, kind, hours));
        }

        private void findShafts(int mine, int n, int k) {
            bestGain = NONE;
            bestShafts = 0;
            tryShafts(mine, n, k, 0, state.seams.at(mine, LEFT), 0, 0);
        }

        /**
         * Goes on from a month that is so many behind this one. Fewer shafts come first, so only more gain counts,
         * and no more can come than is left.
         */
        private void tryShafts(int mine, int months, int k, int behind, int left, int gain, int shafts) {
            if (gain + left <= bestGain) {
                return;
            }
            if (months <= 0) {
                if (gain > bestGain) {
                    bestGain = gain;
                    bestShafts = shafts;
                }
                return;
            }
            int month = state.month + behind;
            int most = isMineOpen(mine, month) ? k : 0;
            for (int many = 0; many <= most; many++) {
                int out = comingOut(many, left, month);
                tryShafts(mine, months - 1, k, behind + 1, left - out, gain + out - many, shafts * 10 + many);
            }
        }

        private int fullestPlace() {
            int found = NONE;
            for (int place = 0; place < state.hours.rows; place++) {
                if (found == NONE || hoursAt(place) > hoursAt(found)) {
                    found = place;
                }
            }
            return found;
        }

        private int dearestWant() {
            int found = NONE;
            for (int want = 0; want < coast.wants.rows; want++) {
                if (state.wants.at(want, OPEN) == 1 && (found == NONE || isDearer(want, found))) {
                    found = want;
                }
            }
            return found;
        }

        private boolean isDearer(int want, int other) {
            return coast.wants.at(want, WORTH) * coast.wants.at(other, LONG)
                > coast.wants.at(other, WORTH) * coast.wants.at(want, LONG);
        }
    }

    /** The steps of a work, and the doing of them. */
    private static final class Program {
        private static final int CARRY = 0;
        private static final int SELL = 1;
        private static final int WATER = 2;
        private static final int DIG = 3;
        private static final int MONTH = 4;
        private static final int AGAIN = 5;
        // A step and its end take six bytes at least.
        private static final int STEPS_MOST = WORK_BYTES / 6;
        // Columns: which step, and what its word is followed by (of an again also where it ends).
        private static final int STEP = 0;
        private static final int ONE = 1;
        private static final int TWO = 2;
        private static final int THREE = 3;
        private static final int FOUR = 4;

        private final Table steps = new Table(new int[STEPS_MOST * 5], 5);
        private int begun;
        private int done;
        private int refused;

        private void read(Tape tape, Coast coast) {
            steps.clear();
            begun = 0;
            done = 0;
            refused = 0;
            readSteps(tape, coast, 0);
            if (tape.next() != NONE) {
                tape.refuse(CANNOT_STAND, tape.at);
            }
        }

        private void readSteps(Tape tape, Coast coast, int open) {
            for (int i = 0; i <= WORK_BYTES && tape.next() != NONE && tape.next() != ']'; i++) {
                tape.takeWord();
                if (tape.isWell()) {
                    readStep(tape, coast, open);
                }
                tape.takeSign(';');
            }
        }

        private void readStep(Tape tape, Coast coast, int open) {
            int row = steps.newRow();
            if (tape.isWord("carry")) {
                readCarry(tape, coast, row);
            } else if (tape.isWord("sell")) {
                steps.put(row, STEP, SELL);
                steps.put(row, ONE, tape.takeNumber(0, coast.wants.rows - 1));
            } else if (tape.isWord("water")) {
                steps.put(row, STEP, WATER);
                steps.put(row, ONE, tape.takeNumber(0, coast.places.rows - 1));
                steps.put(row, TWO, tape.takeNumber(1, 99));
            } else if (tape.isWord("dig")) {
                steps.put(row, STEP, DIG);
                steps.put(row, ONE, tape.takeNumber(0, coast.mines.rows - 1));
                steps.put(row, TWO, tape.takeNumber(1, 9));
            } else if (tape.isWord("month")) {
                steps.put(row, STEP, MONTH);
            } else if (tape.isWord("again")) {
                readAgain(tape, coast, row, open);
            } else {
                tape.refuse(CANNOT_STAND, tape.wordFrom);
            }
        }

        private void readCarry(Tape tape, Coast coast, int row) {
            int from = tape.takeNumber(0, coast.places.rows - 1);
            tape.next();
            int spot = tape.at;
            int to = tape.takeNumber(0, coast.places.rows - 1);
            if (tape.isWell() && to == from) {
                tape.refuse(NONE_SUCH, spot);
            }
            steps.put(row, STEP, CARRY);
            steps.put(row, ONE, from);
            steps.put(row, TWO, to);
            steps.put(row, THREE, tape.takeNumber(1, 99));
            steps.put(row, FOUR, tape.takeNumber(0, 1) == 1 ? GOOD : WATERED);
        }

        private void readAgain(Tape tape, Coast coast, int row, int open) {
            if (open >= OPEN_MOST) {
                tape.refuse(TOO_MANY, tape.wordFrom);
                return;
            }
            steps.put(row, STEP, AGAIN);
            steps.put(row, ONE, tape.takeNumber(0, 20));
            tape.takeSign('[');
            readSteps(tape, coast, open + 1);
            tape.takeSign(']');
            steps.put(row, TWO, steps.rows);
        }

        private void runSteps(Shore shore, int from, int end, int open) {
            int row = from;
            while (row < end && begun < STEPS_BEGUN_MOST) {
                begun++;
                if (steps.at(row, STEP) == AGAIN) {
                    int behind = Math.max(steps.at(row, TWO), row + 1);
                    for (int i = 0; i < steps.at(row, ONE) && open < OPEN_MOST; i++) {
                        runSteps(shore, row + 1, behind, open + 1);
                    }
                    row = behind;
                } else {
                    keepAnswer(doStep(shore, row));
                    row++;
                }
            }
        }

        private void keepAnswer(boolean isDone) {
            if (isDone) {
                done++;
            } else {
                refused++;
            }
        }

        private boolean doStep(Shore shore, int row) {
            int one = steps.at(row, ONE);
            int two = steps.at(row, TWO);
            switch (steps.at(row, STEP)) {
                case CARRY:
                    return shore.carryHours(one, two, steps.at(row, THREE), steps.at(row, FOUR));
                case SELL:
                    return shore.sellWant(one);
                case WATER:
                    return shore.waterHours(one, two);
                case DIG:
                    return shore.digShafts(one, two);
                default:
                    shore.passMonth();
                    return true;
            }
        }
    }

    /** Sales, prices and sellers. */
    private static final class Market {
        // Twelve wants of twelve hours are the most that can be wanted.
        private static final int NEEDS = 145;
        // A set of wants as one number: the more worth, then the fewer bits, the greater.
        private static final int BITS = 4096;

        private final Shore shore;
        private final int[] sets = new int[NEEDS];
        private final int[] otherSets = new int[NEEDS];
        private final int[] bestAgainst = new int[TOLD_PRICES];
        private int carried;
        private int worthBehind;
        private int rests;
        private int firstRest;
        private int firstGets;

        private Market(Shore shore) {
            this.shore = shore;
        }

        private static int worthOf(int set) {
            return set / BITS;
        }

        private static int bitsOf(int set) {
            return BITS - 1 - set % BITS;
        }

        /** Puts into a row the best set of a place for each number of good hours. */
        private void weigh(int place, int[] best) {
            Arrays.fill(best, BITS - 1);
            tryWants(place, 0, best, 0, -shore.state.hours.at(place, WATERED), BITS - 1);
            for (int hours = 1; hours < best.length; hours++) {
                best[hours] = Math.max(best[hours], best[hours - 1]);
            }
        }

        /** alone: hours of wants of good ones alone; lacking: hours of all, less the watered ones. */
        private void tryWants(int place, int want, int[] best, int alone, int lacking, int set) {
            if (want >= shore.coast.wants.rows) {
                int good = Math.max(alone, lacking);
                if (good >= 0 && good < best.length) {
                    best[good] = Math.max(best[good], set);
                }
                return;
            }
            tryWants(place, want + 1, best, alone, lacking, set);
            if (shore.isOpenAt(want, place)) {
                int hours = shore.coast.wants.at(want, LONG);
                int worth = shore.coast.wants.at(want, WORTH);
                tryWants(place, want + 1, best, alone + hours * shore.coast.wants.at(want, GOOD_ALONE),
                    lacking + hours, set + worth * BITS - (1 << want));
            }
        }

        private static int bestBy(int[] best, int good) {
            int hours = Math.min(good, best.length - 1);
            return hours >= 0 ? best[hours] : BITS - 1;
        }

        /** The worth of sales, were one place to have so many more good hours. */
        private int bestWorth(int gifted, int more) {
            int worth = 0;
            for (int place = 0; place < shore.coast.places.rows; place++) {
                weigh(place, sets);
                int good = shore.state.hours.at(place, GOOD) + (place == gifted ? more : 0);
                worth += worthOf(bestBy(sets, good));
            }
            return worth;
        }

        private int bestBits() {
            int bits = 0;
            for (int place = 0; place < shore.coast.places.rows; place++) {
                weigh(place, sets);
                bits |= bitsOf(bestBy(sets, shore.state.hours.at(place, GOOD)));
            }
            return bits;
        }

        private void findBestCarrying(int from, int to) {
            int here = shore.state.hours.at(from, GOOD);
            int there = shore.state.hours.at(to, GOOD);
            int all = bestWorth(NONE, 0);
            weigh(from, sets);
            weigh(to, otherSets);
            int elsewhere = all - worthOf(bestBy(sets, here)) - worthOf(bestBy(otherSets, there));
            carried = 0;
            worthBehind = NONE;
            for (int n = 0; n <= here; n++) {
                int come = shore.arriving(from, to, n, 1);
                int worth = elsewhere + worthOf(bestBy(sets, here - n)) + worthOf(bestBy(otherSets, there + come));
                if (worth > worthBehind) {
                    carried = n;
                    worthBehind = worth;
                }
            }
        }

        private int clearingPrice(int place) {
            int there = shore.hoursAt(place);
            int found = 0;
            while (found < PRICE_MOST && shore.hoursWanted(place, found) > there) {
                found++;
            }
            return found;
        }

        /** A price is v or more if what is wanted at one less does not clear. */
        private int hoursToCorner(int place, int v) {
            if (v == 0) {
                return 0;
            }
            int taken = Math.max(0, shore.hoursAt(place) - shore.hoursWanted(place, v - 1) + 1);
            return taken <= shore.state.hours.at(place, GOOD) ? taken : NONE;
        }

        private int gained(int place, int own, int other) {
            if (own > other) {
                return 0;
            }
            int hours = 0;
            for (int want = 0; want < shore.coast.wants.rows; want++) {
                if (shore.isOpenAt(want, place) && shore.coast.wants.at(want, WORTH) >= own) {
                    int wanted = shore.coast.wants.at(want, LONG);
                    hours += own < other ? wanted : wanted / 2;
                }
            }
            return hours * own;
        }

        private void findRests(int place, int n) {
            for (int other = 0; other <= n && other < bestAgainst.length; other++) {
                bestAgainst[other] = 0;
                for (int own = 0; own <= n; own++) {
                    bestAgainst[other] = Math.max(bestAgainst[other], gained(place, own, other));
                }
            }
            rests = 0;
            firstRest = NONE;
            firstGets = 0;
            for (int one = 0; one <= n; one++) {
                for (int other = 0; other <= n; other++) {
                    if (isRest(place, one, other)) {
                        keepRest(place, one, other);
                    }
                }
            }
        }

        private boolean isRest(int place, int one, int other) {
            return isBestAgainst(place, one, other) && isBestAgainst(place, other, one);
        }

        private boolean isBestAgainst(int place, int own, int other) {
            return other >= 0 && other < bestAgainst.length && gained(place, own, other) == bestAgainst[other];
        }

        private void keepRest(int place, int one, int other) {
            if (rests == 0) {
                firstRest = 100 * one + other;
                firstGets = gained(place, one, other);
            }
            rests++;
        }
    }

    /** The wants of a place packed into the fewest nights. */
    private static final class Nights {
        private static final int LONGEST = 24;
        // A night and the hours taken of it as one number; more hours than a night can have.
        private static final int NIGHT = 32;
        private static final int NO_WAY = NIGHT * NIGHT;

        private final Shore shore;
        private final int[] which = new int[WANTS_MOST];
        private final int[] taken = new int[WANTS_MOST];
        private final int[] chosenNight = new int[WANTS_MOST];
        private int[] reach;
        private int many;
        private int fewest;

        private Nights(Shore shore) {
            this.shore = shore;
        }

        private int nightOf(int want) {
            for (int i = 0; i < many && i < which.length; i++) {
                if (which[i] == want) {
                    return fewest == NONE ? NONE : chosenNight[i];
                }
            }
            return NONE;
        }

        private void pack(int place, int n) {
            gather(place);
            Arrays.fill(taken, 0);
            int last = lastNight(0, n, many);
            fewest = last == NO_WAY ? NONE : last;
            if (fewest == NONE) {
                return;
            }
            for (int i = 0; i < many && i < which.length; i++) {
                chosenNight[i] = leastNight(i, n);
            }
        }

        private void gather(int place) {
            many = 0;
            for (int want = 0; want < shore.coast.wants.rows; want++) {
                if (shore.coast.wants.at(want, WHERE) == place && many < which.length) {
                    which[many] = want;
                    many++;
                }
            }
        }

        private int hoursOf(int i) {
            return i >= 0 && i < which.length ? shore.coast.wants.at(which[i], LONG) : 0;
        }

        private int takenOf(int night) {
            return night >= 0 && night < taken.length ? taken[night] : LONGEST + 1;
        }

        private void take(int night, int hours) {
            if (night >= 0 && night < taken.length) {
                taken[night] += hours;
            }
        }

        /** The least night for a want by which those behind it still go into the fewest. */
        private int leastNight(int i, int n) {
            int hours = hoursOf(i);
            for (int night = 0; night < fewest; night++) {
                if (takenOf(night) + hours <= n) {
                    take(night, hours);
                    if (lastNight(i + 1, n, fewest) != NO_WAY) {
                        return night;
                    }
                    take(night, -hours);
                }
            }
            return NONE;
        }

        /**
         * How many nights are used when the wants from one on are put in, beside what is taken; NO_WAY if they
         * don't go into so many. For each set of them the least night, then the fewest hours, is all that counts.
         */
        private int lastNight(int first, int n, int nightsMost) {
            int rest = many - first;
            if (rest <= 0) {
                return 0;
            }
            if (reach == null) {
                reach = new int[1 << WANTS_MOST];
            }
            reach[0] = takenOf(0);
            int sets = Math.min(1 << rest, reach.length);
            for (int set = 1; set < sets; set++) {
                reach[set] = bestOfSet(set, first, n, nightsMost);
            }
            int end = reach[sets - 1];
            return end >= NO_WAY ? NO_WAY : end / NIGHT + 1;
        }

        private int bestOfSet(int set, int first, int n, int nightsMost) {
            int best = NO_WAY;
            for (int i = 0; set >> i != 0 && i < WANTS_MOST; i++) {
                int without = set & ~(1 << i);
                if (without != set && without >= 0 && without < reach.length) {
                    best = Math.min(best, putIn(reach[without], hoursOf(first + i), n, nightsMost));
                }
            }
            return best;
        }

        private int putIn(int before, int hours, int n, int nightsMost) {
            if (before >= NO_WAY) {
                return NO_WAY;
            }
            if (before % NIGHT + hours <= n) {
                return before + hours;
            }
            for (int night = before / NIGHT + 1; night < nightsMost; night++) {
                if (takenOf(night) + hours <= n) {
                    return night * NIGHT + takenOf(night) + hours;
                }
            }
            return NO_WAY;
        }
    }
}
