/**
 * A street of cells with windows above, and people who stand about and catch thrown roses.
 * The promises that every method keeps stand in ../shared/DOC.md; the words here are its words.
 */
public final class ThrownRosesReturn {
    public static final int NONE = -1;

    private static final int FINE = 0;
    private static final int BAD = -2;
    private static final int OTHER = -3;
    private static final int NOTHING = -4;
    private static final int STUCK = -5;
    private static final int FULL = -6;

    private static final int MOST_CELLS = 30;
    private static final int MOST_WINDOWS = 8;
    private static final int MOST_PEOPLE = 8;
    private static final int MOST_SHELVES = 8;
    private static final int MOST_ELEMENTS = 40;
    private static final int MOST_BYTES = 250;
    private static final int MOST_DIGITS = 3;

    private static final int CALM = 5;
    private static final int MOST_WIND = 10;
    private static final int LAST_DAY = 999;
    private static final int MOST_FLOOR = 5;
    private static final int MOST_THORNS = 9;
    private static final int MOST_A = 9;
    private static final int FORCES = 10;
    private static final int WAYS = 3;
    private static final int THROWS = FORCES * WAYS;

    private static final int CATCHER = 0;
    private static final int SHY = 1;
    private static final int BOLD = 2;
    private static final int TIMID = 3;
    private static final int RAKE = 4;
    private static final int HORSE = 5;
    private static final int LAST_KIND = HORSE;
    private static final int[] KIND_ABOVE = {NONE, CATCHER, CATCHER, SHY, BOLD, CATCHER};
    private static final int[] REACH_OF_KIND = {1, 0, 2, 0, 3, 1};

    private static final int BYTES = 0;
    private static final int SHORTS = 1;
    private static final int INTS = 2;
    private static final int BOOLEANS = 4;
    private static final int LAST_SORT = BOOLEANS;

    private final Street live = new Street();
    private final Street kept = new Street();
    private final Outlook outlook = new Outlook();
    private final Pairing pairing = new Pairing();
    private final Tape tape = new Tape();
    private final Shelf[] shelves = new Shelf[MOST_SHELVES];
    private final int[] refusals = new int[1 - FULL];
    private boolean somethingKept;

    public ThrownRosesReturn() {
        for (int s = 0; s < MOST_SHELVES; s++) {
            shelves[s] = new Shelf();
        }
    }

    // ---- SHELVES ----

    public int row(int s, int sort, int n) {
        if (!isShelf(s) || !within(sort, 0, LAST_SORT) || !within(n, 0, MOST_ELEMENTS)) {
            return refuse(BAD);
        }
        shelves[s].takeRow(sort, n);
        return 1;
    }

    public int set(int s, int i, long v) {
        int refusal = rowRefusal(s, 0);
        if (refusal != FINE) {
            return refuse(refusal);
        }
        Row row = shelves[s].row;
        if (!row.hasElement(i)) {
            return refuse(BAD);
        }
        row.elements[i] = row.fitted(v);
        return 1;
    }

    public int copy(int p, int q, int i, int j, int n) {
        if (!isShelf(p) || !isShelf(q)) {
            return refuse(BAD);
        }
        Shelf from = shelves[p];
        Shelf to = shelves[q];
        if (from.person != NONE || to.person != NONE) {
            return refuse(OTHER);
        }
        if (from.hasRow && to.hasRow && from.row.sort != to.row.sort) {
            return refuse(OTHER);
        }
        if (!from.hasRow || !to.hasRow) {
            return refuse(NOTHING);
        }
        if (!from.row.hasStretch(i, n) || !to.row.hasStretch(j, n)) {
            return refuse(BAD);
        }
        System.arraycopy(from.row.elements, i, to.row.elements, j, n);
        return n;
    }

    public long element(int s, int i) {
        if (!isShelf(s) || !shelves[s].hasRow || !shelves[s].row.hasElement(i)) {
            return 0;
        }
        return shelves[s].row.elements[i];
    }

    public int holds(int s) {
        if (!isShelf(s) || shelves[s].isEmpty()) {
            return NONE;
        }
        return shelves[s].hasRow ? shelves[s].row.sort : 10 + shelves[s].person;
    }

    public int show(int s, int person) {
        if (!isShelf(s) || person != NONE && !live.hasPerson(person)) {
            return refuse(BAD);
        }
        shelves[s].takePerson(person);
        return 1;
    }

    public int says(int s, int kind) {
        if (!isShelf(s) || !isKind(kind)) {
            return refuse(BAD);
        }
        Shelf shelf = shelves[s];
        if (shelf.hasRow) {
            return refuse(OTHER);
        }
        if (!live.hasPerson(shelf.person)) {
            return refuse(NOTHING);
        }
        Person one = live.people[shelf.person];
        if (!one.isOf(kind)) {
            return refuse(OTHER);
        }
        return kind == CATCHER ? one.a : slowness(one.kind, one.a, MOST_FLOOR);
    }

    // ---- THE STREET ----

    public int paves(int n) {
        if (!within(n, live.cells, MOST_CELLS)) {
            return refuse(BAD);
        }
        int before = live.cells;
        live.cells = n;
        return before;
    }

    public int window(int cell, int floor, int thorns) {
        if (!live.hasCell(cell) || !within(floor, 1, MOST_FLOOR) || !isThorns(thorns)) {
            return refuse(BAD);
        }
        if (!live.hasRoomForWindow()) {
            return refuse(FULL);
        }
        return live.addWindow(cell, floor, thorns);
    }

    public int person(int kind, int a, int cell) {
        if (!isKind(kind) || !within(a, 0, MOST_A) || !live.hasCell(cell)) {
            return refuse(BAD);
        }
        if (!live.hasRoomForPerson()) {
            return refuse(FULL);
        }
        return live.addPerson(kind, a, cell);
    }

    public int put(int person, int cell) {
        if (!live.hasPerson(person) || !live.hasCell(cell)) {
            return refuse(BAD);
        }
        int before = live.people[person].at;
        live.people[person].at = cell;
        return before;
    }

    public int tell(int what, int v) {
        if (!isWhat(what, 2) || !within(v, 0, what == 0 ? MOST_WIND : LAST_DAY)) {
            return refuse(BAD);
        }
        int before;
        if (what == 0) {
            before = live.wind;
            live.wind = v;
        } else if (what == 1) {
            before = live.day;
            live.day = v;
        } else {
            before = live.lent;
            live.lent = v;
        }
        return before;
    }

    public int feed(int letter) {
        if (!within(letter, 0, 255)) {
            return refuse(BAD);
        }
        if (tape.size >= MOST_BYTES) {
            return refuse(FULL);
        }
        tape.letters[tape.size] = letter;
        tape.size++;
        return tape.size;
    }

    public int wipe() {
        int before = tape.size;
        tape.size = 0;
        return before;
    }

    public int street() {
        tape.draft.copyFrom(live);
        int statements = tape.read();
        tape.size = 0;
        if (statements == NONE) {
            refuse(BAD);
            return -20 - tape.fault();
        }
        live.copyFrom(tape.draft);
        return statements;
    }

    public int personOf(int person, int what) {
        if (!live.hasPerson(person) || !isWhat(what, 5)) {
            return refuse(BAD);
        }
        Person one = live.people[person];
        switch (what) {
            case 0:
                return one.kind;
            case 1:
                return one.a;
            case 2:
                return one.at;
            case 3:
                return one.rose;
            case 4:
                return one.due;
            default:
                return one.reach();
        }
    }

    public int windowOf(int window, int what) {
        if (!live.hasWindow(window) || !isWhat(what, 2)) {
            return refuse(BAD);
        }
        Window one = live.windows[window];
        if (what == 0) {
            return one.cell;
        }
        return what == 1 ? one.floor : one.thorns;
    }

    // ---- A THROW ----

    public int lands(int window, int force, int way) {
        return isThrow(window, force, way) ? live.landing(window, force, way) : refuse(BAD);
    }

    public int caught(int window, int force, int way) {
        return isThrow(window, force, way) ? live.catcherOf(window, force, way) : refuse(BAD);
    }

    public int slow(int person, int window) {
        return isCouple(person, window) ? live.slowOf(person, window) : refuse(BAD);
    }

    public int comes(int person, int window) {
        if (!isCouple(person, window)) {
            return refuse(BAD);
        }
        return live.dueDay(person, window) != NONE ? 1 : 0;
    }

    // ---- WHAT COMES OF IT ----

    public int throwsFor(int person, int window, int what) {
        if (!isCouple(person, window) || !isWhat(what, 2)) {
            return refuse(BAD);
        }
        if (what == 0) {
            return live.countThrows(person, window);
        }
        int first = live.firstThrow(person, window);
        if (first == NONE) {
            return NONE;
        }
        return what == 1 ? first / 10 : first % 10;
    }

    public int hit(int window) {
        return live.hasWindow(window) ? live.peopleHit(window) : refuse(BAD);
    }

    public int open(int window, int what) {
        if (!live.hasWindow(window) || !isWhat(what, 1)) {
            return refuse(BAD);
        }
        return what == 0 ? live.openCells(window) : freshOutlook().cellsAstray(window);
    }

    public int whose(int person, int thorns, int what) {
        if (!live.hasPerson(person) || !isThorns(thorns) || !isWhat(what, 2)) {
            return refuse(BAD);
        }
        int windows = live.windowsWithin(person, thorns);
        if (what == 0) {
            return windows;
        }
        return what == 1 ? live.floorsTogether(windows) : live.lowestOf(windows);
    }

    public int fond(int window, int person) {
        return isCouple(person, window) ? live.fondness(window, person) : refuse(BAD);
    }

    public int pairs(int window) {
        if (window != -2 && window != NONE && !live.hasWindow(window)) {
            return refuse(BAD);
        }
        pairing.settle(live);
        if (window == NONE) {
            return pairing.fondTogether();
        }
        return window == -2 ? pairing.countPaired() : pairing.partners[window];
    }

    public int winds(int s, int n) {
        if (!within(n, 0, MOST_ELEMENTS / 2)) {
            return refuse(BAD);
        }
        int refusal = rowRefusal(s, 2 * n);
        if (refusal != FINE) {
            return refuse(refusal);
        }
        if (live.firstWrong(shelves[s].row, n, 2) != NONE) {
            return refuse(STUCK);
        }
        return freshOutlook().windsThatFit(shelves[s].row, n);
    }

    public int kinds(int s, int n, int person) {
        if (!within(n, 0, MOST_ELEMENTS / 2) || !live.hasPerson(person)) {
            return refuse(BAD);
        }
        int refusal = rowRefusal(s, 2 * n);
        if (refusal != FINE) {
            return refuse(refusal);
        }
        if (!live.tellsOfWindows(shelves[s].row, n)) {
            return refuse(STUCK);
        }
        return live.kindsThatFit(shelves[s].row, n, person);
    }

    public int chance(int person, int window, int force, int way) {
        if (!live.hasPerson(person) || !isThrow(window, force, way)) {
            return refuse(BAD);
        }
        return freshOutlook().countWinds(person, window, force, way) * 1000000 / (MOST_WIND + 1);
    }

    public int safest(int person, int window) {
        return isCouple(person, window) ? freshOutlook().safestThrow(person, window) : refuse(BAD);
    }

    public int queue(int window, int day) {
        if (!live.hasWindow(window) || !within(day, 0, LAST_DAY)) {
            return refuse(BAD);
        }
        return live.queueLength(window, day);
    }

    public int longest(int what) {
        if (!isWhat(what, 2)) {
            return refuse(BAD);
        }
        int waiter = live.longestWaiter();
        if (waiter == NONE) {
            return what == 0 ? 0 : NONE;
        }
        Person one = live.people[waiter];
        if (what == 0) {
            return live.queueLength(one.rose, one.due);
        }
        return what == 1 ? one.due : one.rose;
    }

    public int move(int person, int what) {
        if (!live.hasPerson(person) || !isWhat(what, 1)) {
            return refuse(BAD);
        }
        freshOutlook().seekPlace(person);
        return what == 0 ? outlook.bestCell : outlook.bestCount;
    }

    public int rival(int person, int window, int force, int way) {
        if (!live.hasPerson(person) || !isThrow(window, force, way)) {
            return refuse(BAD);
        }
        return live.catcherBut(person, live.landing(window, force, way));
    }

    public int having(int what) {
        if (!isWhat(what, 2)) {
            return refuse(BAD);
        }
        return what == 2 ? live.dueOn(live.firstDue()) : live.roseBearers(what == 1);
    }

    public int due(int what) {
        if (!isWhat(what, 1)) {
            return refuse(BAD);
        }
        return what == 0 ? live.firstDue() : live.lastDue();
    }

    public int lentFor(int person, int window) {
        return isCouple(person, window) ? live.dayBack(person, window) : refuse(BAD);
    }

    public int best(int what) {
        if (!isWhat(what, 1)) {
            return refuse(BAD);
        }
        if (live.windowCount == 0) {
            return refuse(STUCK);
        }
        int window = live.bestWindow();
        return what == 0 ? window : Integer.bitCount(live.peopleHit(window));
    }

    public int bed(int what) {
        if (!isWhat(what, 1)) {
            return refuse(BAD);
        }
        freshOutlook().seekBed();
        return what == 0 ? outlook.bestCell : outlook.bestCount;
    }

    public int off(int window) {
        return live.hasWindow(window) ? live.countLandings(window, NONE) : refuse(BAD);
    }

    public int windFor(int person, int window, int force, int way) {
        if (!live.hasPerson(person) || !isThrow(window, force, way)) {
            return refuse(BAD);
        }
        return freshOutlook().leastWind(person, window, force, way);
    }

    public int catches(int cell) {
        return live.hasCell(cell) ? live.catcherBut(NONE, cell) : refuse(BAD);
    }

    public int gaps() {
        return live.uncaughtCells();
    }

    public int between(int window, int other) {
        if (!live.hasWindow(window) || !live.hasWindow(other)) {
            return refuse(BAD);
        }
        return live.openCells(window) & live.openCells(other);
    }

    public int fondest(int window) {
        return live.hasWindow(window) ? live.fondestPerson(window) : refuse(BAD);
    }

    public int admirer(int person) {
        return live.hasPerson(person) ? live.fondestWindow(person) : refuse(BAD);
    }

    public int reached(int cell) {
        return live.hasCell(cell) ? live.peopleReaching(cell) : refuse(BAD);
    }

    public int late(int person) {
        return live.hasPerson(person) ? live.windowsTooLate(person) : refuse(BAD);
    }

    public int ofKind(int kind) {
        return isKind(kind) ? live.countKind(kind) : refuse(BAD);
    }

    public int judge(int s, int n) {
        if (!within(n, 0, MOST_ELEMENTS)) {
            return refuse(BAD);
        }
        int refusal = rowRefusal(s, n);
        if (refusal != FINE) {
            return refuse(refusal);
        }
        return live.firstWrong(shelves[s].row, n, 1);
    }

    public int behind(int s, int n, int what) {
        if (!within(n, 0, MOST_ELEMENTS) || !isWhat(what, 3)) {
            return refuse(BAD);
        }
        int refusal = rowRefusal(s, n);
        if (refusal != FINE) {
            return refuse(refusal);
        }
        if (live.firstWrong(shelves[s].row, n, 1) != NONE) {
            return refuse(STUCK);
        }
        freshOutlook().follow(shelves[s].row, n);
        switch (what) {
            case 0:
                return outlook.draft.roseBearers(false);
            case 1:
                return outlook.logCaught;
            case 2:
                return outlook.logLying;
            default:
                return outlook.logOff;
        }
    }

    // ---- IN TRUTH ----

    public int thrown(int window, int force, int way) {
        return isThrow(window, force, way) ? live.throwRose(window, force, way) : refuse(BAD);
    }

    public int days(int n) {
        if (!within(n, 1, 60)) {
            return refuse(BAD);
        }
        for (int i = 0; i < n; i++) {
            live.passDay();
        }
        return live.said;
    }

    public int drawn(int n) {
        if (!within(n, 1, 40)) {
            return refuse(BAD);
        }
        if (live.windowCount == 0) {
            return refuse(STUCK);
        }
        int count = 0;
        for (int i = 0; i < n; i++) {
            if (live.carnival() != NONE) {
                count++;
            }
        }
        return count;
    }

    public int seed(int v) {
        int before = live.seed;
        live.seed = v;
        return before;
    }

    public int image() {
        kept.copyFrom(live);
        somethingKept = true;
        return 1;
    }

    public int back() {
        if (!somethingKept) {
            return refuse(STUCK);
        }
        live.copyFrom(kept);
        for (int s = 0; s < MOST_SHELVES; s++) {
            if (shelves[s].person >= live.personCount) {
                shelves[s].takePerson(NONE);
            }
        }
        return 1;
    }

    public int status(int what) {
        if (what >= 10 - BAD && what <= 10 - FULL) {
            return refusals[what - 10];
        }
        switch (what) {
            case 0:
                return live.personCount;
            case 1:
                return live.windowCount;
            case 2:
                return live.cells;
            case 3:
                return live.wind;
            case 4:
                return live.day;
            case 5:
                return live.lent;
            case 6:
                return live.said;
            case 7:
                return Integer.bitCount(live.roseBearers(false));
            case 8:
                return tape.size;
            case 9:
                return live.seed;
            case 10:
                return countFilledShelves();
            default:
                return NONE;
        }
    }

    // ---- what may be ----

    private int refuse(int refusal) {
        refusals[-refusal]++;
        return refusal;
    }

    /** Why the row on a shelf can't be asked for its first elements, or FINE. */
    private int rowRefusal(int s, int elements) {
        if (!isShelf(s)) {
            return BAD;
        }
        Shelf shelf = shelves[s];
        if (shelf.person != NONE) {
            return OTHER;
        }
        if (!shelf.hasRow) {
            return NOTHING;
        }
        return shelf.row.size < elements ? BAD : FINE;
    }

    /** The outlook is tried out on a draft, which every question needs laid anew. */
    private Outlook freshOutlook() {
        outlook.draft.copyFrom(live);
        return outlook;
    }

    private int countFilledShelves() {
        int count = 0;
        for (int s = 0; s < MOST_SHELVES; s++) {
            if (!shelves[s].isEmpty()) {
                count++;
            }
        }
        return count;
    }

    private boolean isCouple(int person, int window) {
        return live.hasPerson(person) && live.hasWindow(window);
    }

    private boolean isThrow(int window, int force, int way) {
        return live.hasWindow(window) && within(force, 0, FORCES - 1) && within(way, 0, WAYS - 1);
    }

    private static boolean isShelf(int s) {
        return within(s, 0, MOST_SHELVES - 1);
    }

    private static boolean isKind(int kind) {
        return within(kind, 0, LAST_KIND);
    }

    private static boolean isThorns(int thorns) {
        return within(thorns, 0, MOST_THORNS);
    }

    private static boolean isWhat(int what, int last) {
        return within(what, 0, last);
    }

    private static boolean within(int v, int least, int most) {
        return v >= least && v <= most;
    }

    /** How many days one of a kind takes; apart from Person, as kinds that nobody is of are asked for too. */
    private static int slowness(int kind, int a, int floor) {
        switch (kind) {
            case SHY:
                return 2 * a + 3;
            case TIMID:
                return 2 * a + 3 + floor;
            case BOLD:
                return a / 2;
            case RAKE:
                return 0;
            case HORSE:
                return a + 10;
            default:
                return a;
        }
    }

    private static final class Window {
        int cell;
        int floor;
        int thorns;

        void copyFrom(Window other) {
            cell = other.cell;
            floor = other.floor;
            thorns = other.thorns;
        }
    }

    private static final class Person {
        int kind;
        int a;
        int at;
        int rose = NONE;
        int due = NONE;

        void copyFrom(Person other) {
            kind = other.kind;
            a = other.a;
            at = other.at;
            rose = other.rose;
            due = other.due;
        }

        /** Of a kind or of one under it; no kind stands more than two below CATCHER. */
        boolean isOf(int wanted) {
            return wanted == CATCHER || wanted == kind || wanted == KIND_ABOVE[kind];
        }

        boolean isHorse() {
            return kind == HORSE;
        }

        int reach() {
            return REACH_OF_KIND[kind];
        }

        boolean reaches(int cell) {
            return Math.abs(at - cell) <= reach();
        }

        boolean isAheadOf(Person other, int cell) {
            if (isHorse() != other.isHorse()) {
                return other.isHorse();
            }
            return Math.abs(at - cell) < Math.abs(other.at - cell);
        }

        void drop() {
            rose = NONE;
            due = NONE;
        }
    }

    /** All that an image keeps, so that a draft of it can be tried out and thrown away. */
    private static final class Street {
        final Window[] windows = new Window[MOST_WINDOWS];
        final Person[] people = new Person[MOST_PEOPLE];
        int windowCount;
        int personCount;
        int cells = 12;
        int wind = CALM;
        int day;
        int lent = 40;
        int said;
        int seed = 1;

        Street() {
            for (int w = 0; w < MOST_WINDOWS; w++) {
                windows[w] = new Window();
            }
            for (int p = 0; p < MOST_PEOPLE; p++) {
                people[p] = new Person();
            }
        }

        void copyFrom(Street other) {
            windowCount = other.windowCount;
            personCount = other.personCount;
            cells = other.cells;
            wind = other.wind;
            day = other.day;
            lent = other.lent;
            said = other.said;
            seed = other.seed;
            for (int w = 0; w < windowCount; w++) {
                windows[w].copyFrom(other.windows[w]);
            }
            for (int p = 0; p < personCount; p++) {
                people[p].copyFrom(other.people[p]);
            }
        }

        boolean hasCell(int cell) {
            return within(cell, 0, cells - 1);
        }

        boolean hasWindow(int window) {
            return within(window, 0, windowCount - 1);
        }

        boolean hasPerson(int person) {
            return within(person, 0, personCount - 1);
        }

        boolean hasRoomForWindow() {
            return windowCount < MOST_WINDOWS;
        }

        boolean hasRoomForPerson() {
            return personCount < MOST_PEOPLE;
        }

        int addWindow(int cell, int floor, int thorns) {
            Window one = windows[windowCount];
            one.cell = cell;
            one.floor = floor;
            one.thorns = thorns;
            windowCount++;
            return windowCount - 1;
        }

        int addPerson(int kind, int a, int cell) {
            Person one = people[personCount];
            one.kind = kind;
            one.a = a;
            one.at = cell;
            one.drop();
            personCount++;
            return personCount - 1;
        }

        int landing(int window, int force, int way) {
            Window from = windows[window];
            int far = force * from.floor / 3;
            int cell = from.cell + wind - CALM;
            if (way == 1) {
                cell += far;
            } else if (way == 2) {
                cell -= far;
            }
            return hasCell(cell) ? cell : NONE;
        }

        int catcherOf(int window, int force, int way) {
            return catcherBut(NONE, landing(window, force, way));
        }

        int catcherBut(int absent, int cell) {
            int catcher = NONE;
            if (!hasCell(cell)) {
                return NONE;
            }
            for (int p = 0; p < personCount; p++) {
                Person one = people[p];
                if (p != absent && one.rose == NONE && one.reaches(cell)
                        && (catcher == NONE || one.isAheadOf(people[catcher], cell))) {
                    catcher = p;
                }
            }
            return catcher;
        }

        int slowOf(int person, int window) {
            return slowness(people[person].kind, people[person].a, windows[window].floor);
        }

        /** The day on which one would be back with a rose had today, whether or not that is ere Lent; NONE: never. */
        int dayBack(int person, int window) {
            if (people[person].isHorse() && windows[window].floor != 1) {
                return NONE;
            }
            int dayThen = day + slowOf(person, window);
            return dayThen <= LAST_DAY ? dayThen : NONE;
        }

        int dueDay(int person, int window) {
            int dayThen = dayBack(person, window);
            return dayThen <= lent ? dayThen : NONE;
        }

        int countThrows(int person, int window) {
            int count = 0;
            for (int t = 0; t < THROWS; t++) {
                if (catcherOf(window, t / WAYS, t % WAYS) == person) {
                    count++;
                }
            }
            return count;
        }

        /** As 10 times the force and the way. */
        int firstThrow(int person, int window) {
            for (int t = 0; t < THROWS; t++) {
                if (catcherOf(window, t / WAYS, t % WAYS) == person) {
                    return 10 * (t / WAYS) + t % WAYS;
                }
            }
            return NONE;
        }

        int openCells(int window) {
            int open = 0;
            for (int t = 0; t < THROWS; t++) {
                int cell = landing(window, t / WAYS, t % WAYS);
                if (cell != NONE) {
                    open |= 1 << cell;
                }
            }
            return open;
        }

        int countLandings(int window, int cell) {
            int count = 0;
            for (int t = 0; t < THROWS; t++) {
                if (landing(window, t / WAYS, t % WAYS) == cell) {
                    count++;
                }
            }
            return count;
        }

        /** The cells in which a rose goes to one and to nobody else. */
        int cellsCaughtBy(int person) {
            Person one = people[person];
            int caught = 0;
            for (int cell = one.at - one.reach(); cell <= one.at + one.reach(); cell++) {
                if (catcherBut(NONE, cell) == person) {
                    caught |= 1 << cell;
                }
            }
            return caught;
        }

        int cellsReachedBy(int person) {
            int reached = 0;
            for (int cell = 0; cell < cells; cell++) {
                if (people[person].reaches(cell)) {
                    reached |= 1 << cell;
                }
            }
            return reached;
        }

        int peopleReaching(int cell) {
            int bits = 0;
            for (int p = 0; p < personCount; p++) {
                if (people[p].reaches(cell)) {
                    bits |= 1 << p;
                }
            }
            return bits;
        }

        int uncaughtCells() {
            int bits = 0;
            for (int cell = 0; cell < cells; cell++) {
                if (catcherBut(NONE, cell) == NONE) {
                    bits |= 1 << cell;
                }
            }
            return bits;
        }

        int peopleHit(int window) {
            int open = openCells(window);
            int bits = 0;
            for (int p = 0; p < personCount; p++) {
                if ((open & cellsCaughtBy(p)) != 0) {
                    bits |= 1 << p;
                }
            }
            return bits;
        }

        int windowsOpenTo(int someCells) {
            int bits = 0;
            for (int w = 0; w < windowCount; w++) {
                if ((openCells(w) & someCells) != 0) {
                    bits |= 1 << w;
                }
            }
            return bits;
        }

        int bestWindow() {
            int best = NONE;
            int most = -1;
            for (int w = 0; w < windowCount; w++) {
                int count = Integer.bitCount(peopleHit(w));
                if (count > most) {
                    most = count;
                    best = w;
                }
            }
            return best;
        }

        int windowsWithin(int person, int thorns) {
            int bits = windowsOpenTo(cellsReachedBy(person));
            for (int w = 0; w < windowCount; w++) {
                if (windows[w].thorns != thorns) {
                    bits &= ~(1 << w);
                }
            }
            return bits;
        }

        int floorsTogether(int someWindows) {
            int floors = 0;
            for (int w = 0; w < windowCount; w++) {
                if ((someWindows >> w & 1) != 0) {
                    floors += windows[w].floor;
                }
            }
            return floors;
        }

        int lowestOf(int someWindows) {
            int lowest = NONE;
            for (int w = 0; w < windowCount; w++) {
                if ((someWindows >> w & 1) != 0 && (lowest == NONE || windows[w].floor < windows[lowest].floor)) {
                    lowest = w;
                }
            }
            return lowest;
        }

        int fondness(int window, int person) {
            return 10 - Math.abs(windows[window].thorns - people[person].a);
        }

        int fondestPerson(int window) {
            int hit = peopleHit(window);
            int fondest = NONE;
            for (int p = 0; p < personCount; p++) {
                if ((hit >> p & 1) != 0 && (fondest == NONE || fondness(window, p) > fondness(window, fondest))) {
                    fondest = p;
                }
            }
            return fondest;
        }

        int fondestWindow(int person) {
            int from = windowsOpenTo(cellsCaughtBy(person));
            int fondest = NONE;
            for (int w = 0; w < windowCount; w++) {
                if ((from >> w & 1) != 0 && (fondest == NONE || fondness(w, person) > fondness(fondest, person))) {
                    fondest = w;
                }
            }
            return fondest;
        }

        int windowsTooLate(int person) {
            int bits = 0;
            for (int w = 0; w < windowCount; w++) {
                if (dueDay(person, w) == NONE) {
                    bits |= 1 << w;
                }
            }
            return bits;
        }

        int countKind(int kind) {
            int count = 0;
            for (int p = 0; p < personCount; p++) {
                if (people[p].kind == kind) {
                    count++;
                }
            }
            return count;
        }

        int roseBearers(boolean neverComing) {
            int bits = 0;
            for (int p = 0; p < personCount; p++) {
                if (people[p].rose != NONE && (!neverComing || people[p].due == NONE)) {
                    bits |= 1 << p;
                }
            }
            return bits;
        }

        int dueOn(int someDay) {
            int bits = 0;
            for (int p = 0; p < personCount; p++) {
                if (people[p].due != NONE && people[p].due == someDay) {
                    bits |= 1 << p;
                }
            }
            return bits;
        }

        int firstDue() {
            int first = NONE;
            for (int p = 0; p < personCount; p++) {
                int due = people[p].due;
                if (due != NONE && (first == NONE || due < first)) {
                    first = due;
                }
            }
            return first;
        }

        int lastDue() {
            int last = NONE;
            for (int p = 0; p < personCount; p++) {
                last = Math.max(last, people[p].due);
            }
            return last;
        }

        int queueLength(int window, int someDay) {
            int length = 0;
            for (int p = 0; p < personCount; p++) {
                if (people[p].rose == window && people[p].due == someDay) {
                    length++;
                }
            }
            return length;
        }

        /** One of those in the longest queue, as he bears its window and its day; NONE: nobody waits. */
        int longestWaiter() {
            int waiter = NONE;
            for (int p = 0; p < personCount; p++) {
                if (people[p].due != NONE && (waiter == NONE || waitsLonger(people[p], people[waiter]))) {
                    waiter = p;
                }
            }
            return waiter;
        }

        private boolean waitsLonger(Person one, Person other) {
            int length = queueLength(one.rose, one.due);
            int otherLength = queueLength(other.rose, other.due);
            if (length != otherLength) {
                return length > otherLength;
            }
            return one.rose != other.rose ? one.rose < other.rose : one.due < other.due;
        }

        /** The first of n told throws that is none; each stands so many elements behind the one ahead. */
        int firstWrong(Row row, int n, int step) {
            for (int i = 0; i < n; i++) {
                if (!isToldThrow(row.elements[i * step])) {
                    return i;
                }
            }
            return NONE;
        }

        private boolean isToldThrow(long told) {
            return told >= 0 && told / 100 < windowCount && told % 10 < WAYS;
        }

        boolean tellsOfWindows(Row row, int twos) {
            for (int i = 0; i < twos; i++) {
                long told = row.elements[2 * i];
                if (told < 0 || told >= windowCount) {
                    return false;
                }
            }
            return true;
        }

        int kindsThatFit(Row row, int twos, int person) {
            int bits = 0;
            for (int kind = 0; kind <= LAST_KIND; kind++) {
                if (isSlowAsTold(row, twos, kind, people[person].a)) {
                    bits |= 1 << kind;
                }
            }
            return bits;
        }

        private boolean isSlowAsTold(Row row, int twos, int kind, int a) {
            for (int i = 0; i < twos; i++) {
                int window = (int) row.elements[2 * i];
                if (slowness(kind, a, windows[window].floor) != row.elements[2 * i + 1]) {
                    return false;
                }
            }
            return true;
        }

        int throwRose(int window, int force, int way) {
            int catcher = catcherOf(window, force, way);
            if (catcher != NONE) {
                people[catcher].rose = window;
                people[catcher].due = dueDay(catcher, window);
            }
            return catcher;
        }

        void passDay() {
            day = Math.min(day + 1, LAST_DAY);
            for (int p = 0; p < personCount; p++) {
                if (people[p].due != NONE && people[p].due <= day) {
                    people[p].drop();
                    said++;
                }
            }
        }

        int carnival() {
            wind = draw(MOST_WIND + 1);
            int window = draw(windowCount);
            int force = draw(FORCES);
            int way = draw(WAYS);
            int catcher = throwRose(window, force, way);
            passDay();
            return catcher;
        }

        private int draw(int below) {
            seed = seed * 1103515245 + 12345;
            return below > 0 ? (seed >>> 16) % below : 0;
        }
    }

    /** What would come of it, where the street would have to be another than it is. */
    private static final class Outlook {
        final Street draft = new Street();
        private final int[] openings = new int[MOST_WINDOWS];
        int bestCell;
        int bestCount;
        int logCaught;
        int logLying;
        int logOff;

        int cellsAstray(int window) {
            int bits = 0;
            for (int wind = 0; wind <= MOST_WIND; wind++) {
                draft.wind = wind;
                bits |= draft.openCells(window);
            }
            return bits;
        }

        int countWinds(int person, int window, int force, int way) {
            int count = 0;
            for (int wind = 0; wind <= MOST_WIND; wind++) {
                draft.wind = wind;
                if (draft.catcherOf(window, force, way) == person) {
                    count++;
                }
            }
            return count;
        }

        int leastWind(int person, int window, int force, int way) {
            for (int wind = 0; wind <= MOST_WIND; wind++) {
                draft.wind = wind;
                if (draft.catcherOf(window, force, way) == person) {
                    return wind;
                }
            }
            return NONE;
        }

        int safestThrow(int person, int window) {
            int safest = NONE;
            int most = 0;
            for (int t = 0; t < THROWS; t++) {
                int count = countWinds(person, window, t / WAYS, t % WAYS);
                if (count > most) {
                    most = count;
                    safest = 10 * (t / WAYS) + t % WAYS;
                }
            }
            return safest;
        }

        void seekPlace(int person) {
            for (int w = 0; w < draft.windowCount; w++) {
                openings[w] = draft.openCells(w);
            }
            bestCell = 0;
            bestCount = 0;
            for (int cell = 0; cell < draft.cells; cell++) {
                draft.people[person].at = cell;
                propose(cell, countOpenings(draft.cellsCaughtBy(person)));
            }
        }

        private int countOpenings(int someCells) {
            int count = 0;
            for (int w = 0; w < draft.windowCount; w++) {
                if ((openings[w] & someCells) != 0) {
                    count++;
                }
            }
            return count;
        }

        void seekBed() {
            bestCell = 0;
            bestCount = 0;
            for (int cell = 0; cell < draft.cells; cell++) {
                int count = 0;
                for (int w = 0; w < draft.windowCount; w++) {
                    count += draft.countLandings(w, cell);
                }
                propose(cell, count);
            }
        }

        private void propose(int cell, int count) {
            if (count > bestCount) {
                bestCell = cell;
                bestCount = count;
            }
        }

        int windsThatFit(Row row, int twos) {
            int bits = 0;
            for (int wind = 0; wind <= MOST_WIND; wind++) {
                draft.wind = wind;
                if (landsAsTold(row, twos)) {
                    bits |= 1 << wind;
                }
            }
            return bits;
        }

        private boolean landsAsTold(Row row, int twos) {
            for (int i = 0; i < twos; i++) {
                int told = (int) row.elements[2 * i];
                int cell = draft.landing(told / 100, told / 10 % 10, told % 10);
                if (cell != row.elements[2 * i + 1]) {
                    return false;
                }
            }
            return true;
        }

        void follow(Row log, int n) {
            logCaught = 0;
            logLying = 0;
            logOff = 0;
            for (int i = 0; i < n; i++) {
                int told = (int) log.elements[i];
                int window = told / 100;
                int force = told / 10 % 10;
                int way = told % 10;
                if (draft.landing(window, force, way) == NONE) {
                    logOff++;
                } else if (draft.throwRose(window, force, way) == NONE) {
                    logLying++;
                } else {
                    logCaught++;
                }
            }
        }
    }

    /** Who should have whose: best[w][taken] is the most FOND of the windows from w on, when some people are taken. */
    private static final class Pairing {
        private final Street draft = new Street();
        private final int[] hits = new int[MOST_WINDOWS];
        private final int[][] best = new int[MOST_WINDOWS + 1][1 << MOST_PEOPLE];
        final int[] partners = new int[MOST_WINDOWS];

        void settle(Street street) {
            draft.copyFrom(street);
            for (int p = 0; p < draft.personCount; p++) {
                draft.people[p].drop();
            }
            for (int w = 0; w < draft.windowCount; w++) {
                hits[w] = draft.peopleHit(w);
            }
            weigh();
            choose();
        }

        int fondTogether() {
            return best[0][0];
        }

        int countPaired() {
            int count = 0;
            for (int w = 0; w < draft.windowCount; w++) {
                if (partners[w] != NONE) {
                    count++;
                }
            }
            return count;
        }

        private void weigh() {
            int allTaken = (1 << draft.personCount) - 1;
            for (int taken = 0; taken <= allTaken; taken++) {
                best[draft.windowCount][taken] = 0;
            }
            for (int w = draft.windowCount - 1; w >= 0; w--) {
                for (int taken = 0; taken <= allTaken; taken++) {
                    best[w][taken] = mostFrom(w, taken);
                }
            }
        }

        private int mostFrom(int window, int taken) {
            int most = best[window + 1][taken];
            int free = hits[window] & ~taken;
            for (int p = 0; p < draft.personCount; p++) {
                if ((free >> p & 1) != 0) {
                    most = Math.max(most, mostWith(window, taken, p));
                }
            }
            return most;
        }

        private int mostWith(int window, int taken, int person) {
            return draft.fondness(window, person) + best[window + 1][taken | 1 << person];
        }

        private void choose() {
            int taken = 0;
            for (int w = 0; w < draft.windowCount; w++) {
                partners[w] = firstBest(w, taken);
                if (partners[w] != NONE) {
                    taken |= 1 << partners[w];
                }
            }
        }

        /** Whom a window has in the first of the best rows, in which NONE stands ahead of all. */
        private int firstBest(int window, int taken) {
            int most = best[window][taken];
            if (best[window + 1][taken] == most) {
                return NONE;
            }
            int free = hits[window] & ~taken;
            for (int p = 0; p < draft.personCount; p++) {
                if ((free >> p & 1) != 0 && mostWith(window, taken, p) == most) {
                    return p;
                }
            }
            return NONE;
        }
    }

    private static final class Row {
        final long[] elements = new long[MOST_ELEMENTS];
        int sort;
        int size;

        boolean hasElement(int i) {
            return within(i, 0, size - 1);
        }

        /** Compared without adding, as a sum of two told numbers may wrap. */
        boolean hasStretch(int from, int n) {
            return from >= 0 && n >= 0 && n <= size && from <= size - n;
        }

        long fitted(long v) {
            switch (sort) {
                case BYTES:
                    return (byte) v;
                case SHORTS:
                    return (short) v;
                case INTS:
                    return (int) v;
                case BOOLEANS:
                    return v != 0 ? 1 : 0;
                default:
                    return v;
            }
        }
    }

    /** A shelf makes its one row at once and uses it again for every row that is put on it. */
    private static final class Shelf {
        final Row row = new Row();
        boolean hasRow;
        int person = NONE;

        boolean isEmpty() {
            return !hasRow && person == NONE;
        }

        void takeRow(int sort, int size) {
            hasRow = true;
            person = NONE;
            row.sort = sort;
            row.size = size;
            for (int i = 0; i < size; i++) {
                row.elements[i] = 0;
            }
        }

        void takePerson(int number) {
            hasRow = false;
            person = number;
        }
    }

    /** Is read onto a draft of the street, which is thrown away if there is a fault. */
    private static final class Tape {
        private static final int END = 0;
        private static final int WORD = 1;
        private static final int NUMBER = 2;
        private static final int SIGN = 3;
        private static final int STRANGE = 4;

        private static final int CELLS = 0;
        private static final int WINDOW = 1;
        private static final int PERSON = 2;
        private static final int AT = 3;
        private static final int WIND = 4;
        private static final int DAY = 5;
        private static final int LENT = 6;
        private static final int[] NUMBERS_BEHIND = {1, 3, 3, 2, 1, 1, 1};

        final int[] letters = new int[MOST_BYTES];
        int size;
        final Street draft = new Street();
        private final int[] numbers = new int[3];
        private int type;
        private int start;
        private int end;

        /** How many statements; NONE: there is a fault. */
        int read() {
            int statements = 0;
            end = 0;
            do {
                if (!readStatement()) {
                    return NONE;
                }
                statements++;
                advance();
            } while (type == SIGN && statements < MOST_BYTES);
            return type == END ? statements : NONE;
        }

        /** The token that was read last is the one at fault; behind the last byte it is the end. */
        int fault() {
            return start;
        }

        private boolean readStatement() {
            advance();
            int verb = type == WORD ? verb() : NONE;
            if (verb == NONE || !hasRoom(verb)) {
                return false;
            }
            for (int i = 0; i < NUMBERS_BEHIND[verb]; i++) {
                advance();
                if (type != NUMBER || end - start > MOST_DIGITS) {
                    return false;
                }
                numbers[i] = number();
                if (!within(numbers[i], least(verb, i), most(verb, i))) {
                    return false;
                }
            }
            apply(verb);
            return true;
        }

        private void advance() {
            while (end < size && letters[end] == ' ') {
                end++;
            }
            start = end;
            type = typeAt(start);
            if (start < size) {
                end++;
            }
            while (end < size && (type == WORD || type == NUMBER) && typeAt(end) == type) {
                end++;
            }
        }

        private int typeAt(int place) {
            if (place >= size) {
                return END;
            }
            int letter = letters[place];
            if (within(letter, 'a', 'z')) {
                return WORD;
            }
            if (within(letter, '0', '9')) {
                return NUMBER;
            }
            return letter == ';' ? SIGN : STRANGE;
        }

        private int number() {
            int value = 0;
            for (int i = start; i < end; i++) {
                value = 10 * value + letters[i] - '0';
            }
            return value;
        }

        private int verb() {
            if (spells("cells")) {
                return CELLS;
            }
            if (spells("window")) {
                return WINDOW;
            }
            if (spells("person")) {
                return PERSON;
            }
            if (spells("at")) {
                return AT;
            }
            if (spells("wind")) {
                return WIND;
            }
            if (spells("day")) {
                return DAY;
            }
            return spells("lent") ? LENT : NONE;
        }

        private boolean spells(String word) {
            if (word.length() != end - start) {
                return false;
            }
            for (int i = 0; i < word.length(); i++) {
                if (letters[start + i] != word.charAt(i)) {
                    return false;
                }
            }
            return true;
        }

        private boolean hasRoom(int verb) {
            if (verb == WINDOW) {
                return draft.hasRoomForWindow();
            }
            return verb != PERSON || draft.hasRoomForPerson();
        }

        private int least(int verb, int which) {
            if (verb == CELLS) {
                return draft.cells;
            }
            return verb == WINDOW && which == 1 ? 1 : 0;
        }

        private int most(int verb, int which) {
            int lastCell = draft.cells - 1;
            switch (verb) {
                case CELLS:
                    return MOST_CELLS;
                case WINDOW:
                    return mostOf(which, lastCell, MOST_FLOOR, MOST_THORNS);
                case PERSON:
                    return mostOf(which, LAST_KIND, MOST_A, lastCell);
                case AT:
                    return mostOf(which, draft.personCount - 1, lastCell, 0);
                case WIND:
                    return MOST_WIND;
                default:
                    return LAST_DAY;
            }
        }

        private static int mostOf(int which, int first, int second, int third) {
            if (which == 0) {
                return first;
            }
            return which == 1 ? second : third;
        }

        private void apply(int verb) {
            switch (verb) {
                case CELLS:
                    draft.cells = numbers[0];
                    break;
                case WINDOW:
                    draft.addWindow(numbers[0], numbers[1], numbers[2]);
                    break;
                case PERSON:
                    draft.addPerson(numbers[0], numbers[1], numbers[2]);
                    break;
                case AT:
                    draft.people[numbers[0]].at = numbers[1];
                    break;
                case WIND:
                    draft.wind = numbers[0];
                    break;
                case DAY:
                    draft.day = numbers[0];
                    break;
                default:
                    draft.lent = numbers[0];
                    break;
            }
        }
    }
}
