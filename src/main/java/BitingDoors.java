import java.util.Arrays;
import java.util.NoSuchElementException;

/** A house whose doors may bite one another, told as a text and then asked and walked through. */
public final class BitingDoors {
    public static final int NONE = -1;

    private static final int NO_SUCH = -2;
    private static final int FLOOR = 0;
    private static final int WALL = 1;
    private static final int THING = 2;
    private static final int DOORWAY = 10;
    private static final int SIDE = 10;
    private static final int HALF = 5;
    private static final int MOST_DOORS = 10;
    private static final int HANGINGS = 4;
    private static final int ANGLES = 3;
    private static final int WAIT = -1;
    private static final int FIRST_SWING = 4;
    private static final int PLACES = 2;
    private static final int[] STEP_X = {0, 1, 0, -1};
    private static final int[] STEP_Y = {-1, 0, 1, 0};

    private final Text text = new Text();
    private final Scene now = new Scene();
    private final Scene trial = new Scene();
    private final Hanger hanger = new Hanger();
    private final Forcing forcing = new Forcing();
    private final Paths paths = new Paths();
    private final Scene[] keptScenes = new Scene[PLACES];
    private final Day[] keptDays = new Day[PLACES];
    private final Sentence[] keptSentences = new Sentence[PLACES];
    private final int[] report = new int[5];
    private boolean reported;
    private Day plan;
    private Sentence saying;
    private int gone;

    public BitingDoors() {
        now.enter(new House());
    }

    public int feed(int a, int b, int c, int d, int e) {
        if (text.size + 20 > Text.MOST_BYTES) {
            return NONE;
        }
        text.add(a);
        text.add(b);
        text.add(c);
        text.add(d);
        text.add(e);
        return text.size;
    }

    public boolean end(int n) {
        if (n < 0 || n > text.size) {
            return false;
        }
        text.size = n;
        return true;
    }

    public int house() {
        House told = new HouseReader(text).read();
        text.size = 0;
        if (told == null) {
            return -1 - text.faultAt;
        }
        now.enter(told);
        plan = null;
        saying = null;
        gone = 0;
        return told.lines;
    }

    public int fault() {
        return text.faultKind;
    }

    public int cell(int x, int y) {
        return now.house.cellAt(x, y);
    }

    public int door(int d, int what) throws NoSuchElementException {
        if (!now.house.hasDoor(d) || what < 0 || what > 8) {
            throw new NoSuchElementException();
        }
        if (what == 4) {
            return now.hanging[d];
        }
        return what == 5 ? now.angle[d] : now.house.doors[d].told(what);
    }

    public int leaf(int d, int h, int angle, int k) {
        if (!now.house.hasHanging(d, h) || angle < 0 || angle >= ANGLES) {
            return NONE;
        }
        return now.house.doors[d].leafCell(h, angle, k);
    }

    public int can(int d, int h) {
        return now.house.hasHanging(d, h) ? now.house.doors[d].angles[h] : NONE;
    }

    public int fit(int d, int h) {
        if (!now.house.hasHanging(d, h)) {
            return NONE;
        }
        return now.house.doors[d].isFit(h) ? 1 : 0;
    }

    public int bites(int d, int h, int e, int g) {
        if (d == e || !now.house.hasHanging(d, h) || !now.house.hasHanging(e, g)) {
            return NONE;
        }
        return now.house.doors[d].sharedCells(h, now.house.doors[e], g);
    }

    public int clashes() {
        hanger.look(now);
        return hanger.bitingPairs(now.hanging);
    }

    public int cheapest() {
        hanger.look(now);
        return hanger.solveCheapest() ? hanger.cheapKey / Hanger.CHEAP_UNIT : NONE;
    }

    public int hung(int d) {
        hanger.look(now);
        return now.house.hasDoor(d) && hanger.solveCheapest() ? hanger.cheap[d] : NONE;
    }

    public int fewest() {
        hanger.look(now);
        return hanger.solveFewest() ? hanger.fewKey / Hanger.FEW_UNIT : NONE;
    }

    public int fewestBy(int d) {
        hanger.look(now);
        return now.house.hasDoor(d) && hanger.solveFewest() ? hanger.few[d] : NONE;
    }

    public int ways() {
        hanger.look(now);
        return hanger.countWays();
    }

    public int forces(int d, int h, int what) {
        if (what < 0 || what > 2 || !now.house.hasHanging(d, h)) {
            return NO_SUCH;
        }
        if (!now.house.doors[d].mayHang(h)) {
            return NO_SUCH;
        }
        hanger.look(now);
        forcing.force(hanger, d, h);
        if (what == 0) {
            return forcing.size;
        }
        return what == 1 ? forcing.set : forcing.dead;
    }

    public int forced(int e) {
        return forcing.hangingOf(e);
    }

    public int forcedAt(int i) {
        return i >= 0 && i < forcing.size ? forcing.order[i] : NONE;
    }

    public int stuck() {
        hanger.look(now);
        return hanger.leastStuck();
    }

    public int joiner() {
        hanger.look(now);
        return hanger.orderChanges();
    }

    public int joinerAt(int i) {
        return i >= 0 && i < hanger.orderSize ? hanger.order[i] : NONE;
    }

    public boolean rehang(int d, int h) {
        if (!now.house.hasHanging(d, h) || now.angle[d] != 0 || !now.house.doors[d].mayHang(h)) {
            return false;
        }
        now.hanging[d] = h;
        return true;
    }

    public boolean stand(int x, int y) {
        if (!now.house.isOpenCell(x, y) || now.hasLeafOn(SIDE * y + x)) {
            return false;
        }
        now.place = SIDE * y + x;
        return true;
    }

    public int place() {
        return now.place;
    }

    public int does(int act) {
        if (!now.isAct(act)) {
            return NO_SUCH;
        }
        int knock = now.knockOf(act);
        if (knock == 0) {
            now.perform(act);
            now.endMinute();
            gone++;
        }
        return knock;
    }

    public int minutes() {
        return gone;
    }

    public int day() {
        Day told = Day.read(text, now.house);
        text.size = 0;
        if (told == null) {
            return -1 - text.faultAt;
        }
        plan = told;
        return told.size;
    }

    public int judge() {
        trial.copy(now);
        return follow(trial);
    }

    public int judged(int what) {
        return reported && what >= 0 && what < report.length ? report[what] : NO_SUCH;
    }

    public int live() {
        int knocked = follow(now);
        gone += report[1];
        return knocked;
    }

    public int way(int x, int y) {
        if (!now.house.isOpenCell(x, y) || !paths.canSearch(now)) {
            return NO_SUCH;
        }
        int state = paths.find(now, SIDE * y + x);
        if (state < 0) {
            return NONE;
        }
        paths.keep(state);
        return paths.length;
    }

    public int wayAt(int i) {
        return i >= 0 && i < paths.length ? paths.acts[i] : NONE;
    }

    public int walk() {
        int done = 0;
        while (done < paths.length && does(paths.acts[done]) == 0) {
            done++;
        }
        return done;
    }

    public int reach(int what) {
        if (what < 0 || what > 1 || now.place < 0) {
            return NONE;
        }
        if (what == 0) {
            return paths.countSteps(now);
        }
        if (!paths.canSearch(now)) {
            return NO_SUCH;
        }
        paths.find(now, NONE);
        return paths.countSeen();
    }

    public int quiet() {
        trial.copy(now);
        int waited = 1;
        // a draught can't shut more angles than all doors have
        while (waited <= MOST_DOORS * ANGLES && trial.endMinute() > 0) {
            waited++;
        }
        return waited;
    }

    public int stride() {
        if (now.house.bed < 0 || !paths.canSearch(now)) {
            return NO_SUCH;
        }
        int state = paths.find(now, now.house.bed);
        return state < 0 ? NONE : paths.minutesTo(state);
    }

    public int sentence() {
        Sentence told = new Sentence().read(text, now.house);
        text.size = 0;
        if (told == null) {
            return -1 - text.faultAt;
        }
        saying = told;
        return told.ones;
    }

    public int said() {
        return saying == null ? NONE : saying.saidOf(now);
    }

    public boolean image(int k) {
        if (k < 0 || k >= PLACES) {
            return false;
        }
        if (keptScenes[k] == null) {
            keptScenes[k] = new Scene();
        }
        keptScenes[k].copy(now);
        keptDays[k] = plan;
        keptSentences[k] = saying;
        return true;
    }

    public boolean restore(int k) {
        if (k < 0 || k >= PLACES || keptScenes[k] == null) {
            return false;
        }
        now.copy(keptScenes[k]);
        plan = keptDays[k];
        saying = keptSentences[k];
        return true;
    }

    public int count(int what) {
        switch (what) {
            case 0:
                return now.house.columns;
            case 1:
                return now.house.rows;
            case 2:
                return now.house.doorCount;
            case 3:
                return now.house.draughtCount;
            case 4:
                return plan == null ? 0 : plan.size;
            case 5:
                return text.size;
            default:
                return NONE;
        }
    }

    /** Does the day in the scene up to its first knock, and reports on it. */
    private int follow(Scene scene) {
        Arrays.fill(report, 0);
        reported = true;
        int knocked = NONE;
        int acts = plan == null ? 0 : plan.size;
        for (int i = 0; i < acts && knocked == NONE; i++) {
            if (!finishAct(scene, plan.acts[i], plan.times[i])) {
                knocked = i;
            }
        }
        report[2] = scene.place;
        report[4] = scene.openDoors();
        return knocked;
    }

    private boolean finishAct(Scene scene, int act, int times) {
        int minutes = act < FIRST_SWING ? times : Math.max(1, scene.lackOf(act));
        for (int minute = 0; minute < minutes; minute++) {
            boolean waits = minute > 0 && scene.isSo(act);
            report[0] = waits ? 0 : knockInDay(scene, act);
            if (report[0] != 0) {
                return false;
            }
            scene.perform(waits ? WAIT : act);
            report[1]++;
            report[3] += scene.endMinute();
        }
        return true;
    }

    private int knockInDay(Scene scene, int act) {
        int knock = scene.knockOf(act);
        // a day opens a door only as far as it can be, so what is "so already" is told by the day, not by the swing
        return knock > 5 && scene.isSo(act) ? 5 : knock;
    }

    /** The words that no door may be called by. */
    private enum Word {
        ROW("row"), DOOR("door"), ALONG("along"), ACROSS("across"), MAY("may"), COSTS("costs"), WHOLE("whole"),
        DRAUGHT("draught"), BED("bed"), GO("go"), OPEN("open"), SHUT("shut"), WAIT("wait"), NORTH("north"),
        EAST("east"), SOUTH("south"), WEST("west"), OR("or"), AND("and"), NOT("not"), FIT("fit"), AT("at"),
        BITES("bites"), ANGLE("angle"), LENGTH("length"), SWEEPS("sweeps");

        private static final Word[] ALL = values();

        /** Ten letters of five bits fit into a long, so that words are compared as numbers. */
        final long code;

        Word(String letters) {
            long packed = 0;
            for (int i = 0; i < letters.length(); i++) {
                packed = (packed << 5) + (letters.charAt(i) - 'a' + 1);
            }
            code = packed;
        }

        static boolean isTaken(long packed) {
            for (int i = 0; i < ALL.length; i++) {
                if (ALL[i].code == packed) {
                    return true;
                }
            }
            return false;
        }
    }

    /** The tape, and the reading of it token by token. */
    private static final class Text {
        static final int MOST_BYTES = 940;
        static final int END = 0;
        static final int WORD = 1;
        static final int NUMBER = 2;
        static final int BAD = 3;
        private static final int MOST_LETTERS = 10;
        private static final int MOST_DIGITS = 2;

        final int[] bytes = new int[MOST_BYTES];
        int size;
        int kind;
        int at;
        int number;
        long word;
        int faultKind;
        int faultAt;
        private int limit;
        private int next;

        void add(int four) {
            for (int shift = 24; shift >= 0; shift -= 8) {
                bytes[size] = (four >>> shift) & 255;
                size++;
            }
        }

        void begin(int most) {
            limit = most;
            next = 0;
            faultKind = 0;
            step();
        }

        void step() {
            while (next < size && (bytes[next] == ' ' || bytes[next] == '\n')) {
                next++;
            }
            if (next >= size || next >= limit) {
                at = Math.min(size, limit);
                kind = size > limit ? BAD : END;
                return;
            }
            at = next;
            readRun();
            if (next == at) {
                int sign = bytes[next];
                boolean known = sign == '(' || sign == ')' || sign == ';' || sign == '<' || sign == '=' || sign == '>';
                kind = known ? sign : BAD;
                next++;
            }
        }

        /** Small letters and digits, as far as they go, are one token or none. */
        private void readRun() {
            int letters = 0;
            int digits = 0;
            number = 0;
            word = 0;
            while (next < size) {
                int sign = bytes[next];
                if (sign >= 'a' && sign <= 'z') {
                    letters++;
                    word = (word << 5) + (sign - 'a' + 1);
                } else if (sign >= '0' && sign <= '9') {
                    digits++;
                    number = 10 * number + (sign - '0');
                } else {
                    break;
                }
                next++;
            }
            if (digits == 0 && letters <= MOST_LETTERS) {
                kind = WORD;
            } else {
                kind = letters == 0 && digits <= MOST_DIGITS ? NUMBER : BAD;
            }
        }

        boolean fail(int why) {
            faultKind = why;
            faultAt = at;
            return false;
        }

        boolean isWord(Word which) {
            return kind == WORD && word == which.code;
        }

        boolean isName() {
            boolean ofCells = true;
            for (int i = at; i < next; i++) {
                ofCells = ofCells && cellOf(bytes[i]) != NONE;
            }
            return kind == WORD && !ofCells && !Word.isTaken(word);
        }

        boolean passWord(Word which) {
            if (!isWord(which)) {
                return false;
            }
            step();
            return true;
        }

        boolean passSign(char sign) {
            if (kind != sign) {
                return fail(1);
            }
            step();
            return true;
        }

        boolean isNumberWithin(int least, int most) {
            if (kind != NUMBER) {
                return fail(1);
            }
            return number >= least && number <= most || fail(2);
        }

        /** The door that is named here; NONE, and a fault, if none is. */
        int namedDoor(House house) {
            boolean named = isName();
            int d = named ? house.findDoor(word) : NONE;
            if (d == NONE) {
                fail(named ? 3 : 1);
            }
            return d;
        }

        static int cellOf(int letter) {
            if (letter == 'w') {
                return WALL;
            }
            if (letter == 'f') {
                return FLOOR;
            }
            return letter == 't' ? THING : NONE;
        }

        int letters() {
            return next - at;
        }
    }

    /** What was told of a door, and the cells of its leaf by each hanging at each angle. */
    private static final class Door {
        /** Cells as bits, the rows 0 to 4 in the low half and 5 to 9 in the high one: one long can't hold them all. */
        final long[] low = new long[HANGINGS * ANGLES];
        final long[] high = new long[HANGINGS * ANGLES];
        final long[] sweptLow = new long[HANGINGS];
        final long[] sweptHigh = new long[HANGINGS];
        final int[] angles = new int[HANGINGS];
        long name;
        int x;
        int y;
        boolean across;
        int length;
        int first;
        int toldHangings;
        int costs = 1;
        boolean whole;

        int told(int what) {
            switch (what) {
                case 0:
                    return x;
                case 1:
                    return y;
                case 2:
                    return across ? 1 : 0;
                case 3:
                    return length;
                case 6:
                    return toldHangings;
                case 7:
                    return costs;
                case 8:
                    return whole ? 1 : 0;
                default:
                    return NONE;
            }
        }

        boolean wasToldWith(int h) {
            return (toldHangings >> h & 1) == 1;
        }

        boolean isFit(int h) {
            int needed = whole ? 6 : 2;
            return (angles[h] & needed) == needed;
        }

        boolean mayHang(int h) {
            return wasToldWith(h) && isFit(h);
        }

        int fitHangings() {
            int fitting = 0;
            for (int h = 0; h < HANGINGS; h++) {
                fitting += mayHang(h) ? 1 : 0;
            }
            return fitting;
        }

        boolean canBeAt(int h, int angle) {
            return (angles[h] >> angle & 1) == 1;
        }

        int sweptCells(int h) {
            return Long.bitCount(sweptLow[h]) + Long.bitCount(sweptHigh[h]);
        }

        int sharedCells(int h, Door other, int g) {
            return Long.bitCount(sweptLow[h] & other.sweptLow[g]) + Long.bitCount(sweptHigh[h] & other.sweptHigh[g]);
        }

        boolean leafHas(int h, int angle, int cell) {
            int leaf = ANGLES * h + angle;
            boolean north = cell < SIDE * HALF;
            return (north ? low[leaf] >>> cell & 1 : high[leaf] >>> cell - SIDE * HALF & 1) == 1;
        }

        int leafCell(int h, int angle, int k) {
            int passed = 0;
            for (int cell = 0; cell < SIDE * SIDE; cell++) {
                if (leafHas(h, angle, cell)) {
                    if (passed == k) {
                        return cell;
                    }
                    passed++;
                }
            }
            return NONE;
        }

        void traceLeaves(House house) {
            for (int h = 0; h < HANGINGS; h++) {
                angles[h] = 1;
                traceLeaf(house, h, 0);
                for (int angle = 1; angle < ANGLES; angle++) {
                    if (traceLeaf(house, h, angle)) {
                        angles[h] |= 1 << angle;
                        sweptLow[h] |= low[ANGLES * h + angle];
                        sweptHigh[h] |= high[ANGLES * h + angle];
                    }
                }
            }
        }

        /** Puts the cells of one leaf into its bits: whether all of them are floor. */
        private boolean traceLeaf(House house, int h, int angle) {
            boolean last = h % 2 == 1;
            int far = last ? length - 1 : 0;
            int along = last ? -1 : 1;
            int swing = h < 2 ? -1 : 1;
            boolean clear = true;
            for (int i = 0; i < length; i++) {
                for (int j = 0; j <= length; j++) {
                    if (isOfLeaf(angle, i, j)) {
                        int cellX = across ? x + j * swing : x + far + i * along;
                        int cellY = across ? y + far + i * along : y + j * swing;
                        addCell(ANGLES * h + angle, cellX, cellY);
                        clear = clear && house.cellAt(cellX, cellY) == FLOOR;
                    }
                }
            }
            return clear;
        }

        private boolean isOfLeaf(int angle, int i, int j) {
            if (angle == 0) {
                return j == 0;
            }
            if (angle == 2) {
                return i == 0 && j > 0;
            }
            return j > 0 && j <= Math.max(1, length - 1) && (j == i || j == i + 1);
        }

        private void addCell(int leaf, int cellX, int cellY) {
            if (cellX < 0 || cellX >= SIDE || cellY < 0 || cellY >= SIDE) {
                return;
            }
            int cell = SIDE * cellY + cellX;
            if (cell < SIDE * HALF) {
                low[leaf] |= 1L << cell;
            } else {
                high[leaf] |= 1L << cell - SIDE * HALF;
            }
        }
    }

    /** A house as it was told; never changed once it is read, so that images may share it. */
    private static final class House {
        static final int MOST_DRAUGHTS = 6;
        static final int DRAUGHT_DOORS = 3;

        final int[] cells = new int[SIDE * SIDE];
        final Door[] doors = new Door[MOST_DOORS];
        final int[] draughts = new int[MOST_DRAUGHTS * DRAUGHT_DOORS];
        int columns;
        int rows;
        int doorCount;
        int draughtCount;
        int bed = NONE;
        int lines;

        int cellAt(int x, int y) {
            boolean within = x >= 0 && x < columns && y >= 0 && y < rows;
            return within ? cells[SIDE * y + x] : NONE;
        }

        /** One can stand there, if no leaf is on it. */
        boolean isOpenCell(int x, int y) {
            int what = cellAt(x, y);
            return what == FLOOR || what >= DOORWAY;
        }

        boolean hasDoor(int d) {
            return d >= 0 && d < doorCount;
        }

        boolean hasHanging(int d, int h) {
            return hasDoor(d) && h >= 0 && h < HANGINGS;
        }

        int findDoor(long name) {
            for (int d = 0; d < doorCount; d++) {
                if (doors[d].name == name) {
                    return d;
                }
            }
            return NONE;
        }
    }

    /** Reads a house line by line; what it reads is dropped at the first fault. */
    private static final class HouseReader {
        private static final int MOST_BYTES = 900;
        private static final int MOST_LENGTH = 3;
        private static final int MOST_COSTS = 99;

        private final Text text;
        private final House house = new House();

        HouseReader(Text told) {
            text = told;
        }

        House read() {
            text.begin(MOST_BYTES);
            while (house.lines <= MOST_BYTES && text.kind != Text.END) {
                if (!readLine() || !text.passSign(';')) {
                    return null;
                }
                house.lines++;
            }
            for (int d = 0; d < house.doorCount; d++) {
                house.doors[d].traceLeaves(house);
            }
            return house;
        }

        private boolean readLine() {
            if (text.isWord(Word.ROW)) {
                return readRow();
            }
            if (text.isWord(Word.DOOR)) {
                return readDoor();
            }
            if (text.isWord(Word.DRAUGHT)) {
                return readDraught();
            }
            return text.isWord(Word.BED) ? readBed() : text.fail(1);
        }

        private boolean readRow() {
            if (house.rows == SIDE) {
                return text.fail(4);
            }
            text.step();
            if (text.kind != Text.WORD) {
                return text.fail(1);
            }
            int letters = text.letters();
            if (house.rows > 0 && letters != house.columns) {
                return text.fail(2);
            }
            for (int x = 0; x < letters; x++) {
                int what = Text.cellOf(text.bytes[text.at + x]);
                if (what == NONE) {
                    return text.fail(2);
                }
                house.cells[SIDE * house.rows + x] = what;
            }
            house.columns = letters;
            house.rows++;
            text.step();
            return true;
        }

        private boolean readDoor() {
            if (house.doorCount == MOST_DOORS) {
                return text.fail(4);
            }
            text.step();
            Door door = new Door();
            if (!readName(door) || !readCorner(door) || !readDoorway(door)) {
                return false;
            }
            if (!readHangings(door) || !readCosts(door)) {
                return false;
            }
            door.whole = text.passWord(Word.WHOLE);
            house.doors[house.doorCount] = door;
            house.doorCount++;
            return true;
        }

        private boolean readName(Door door) {
            if (!text.isName()) {
                return text.fail(1);
            }
            if (house.findDoor(text.word) != NONE) {
                return text.fail(3);
            }
            door.name = text.word;
            text.step();
            return true;
        }

        private boolean readCorner(Door door) {
            if (!text.isNumberWithin(0, house.columns - 1)) {
                return false;
            }
            door.x = text.number;
            text.step();
            if (!text.isNumberWithin(0, house.rows - 1)) {
                return false;
            }
            door.y = text.number;
            text.step();
            door.across = text.isWord(Word.ACROSS);
            if (!door.across && !text.isWord(Word.ALONG)) {
                return text.fail(1);
            }
            text.step();
            return true;
        }

        private boolean readDoorway(Door door) {
            if (!text.isNumberWithin(1, MOST_LENGTH)) {
                return false;
            }
            door.length = text.number;
            int fault = doorwayFault(door);
            if (fault != 0) {
                return text.fail(fault);
            }
            for (int i = 0; i < door.length; i++) {
                int cell = door.across ? SIDE * (door.y + i) + door.x : SIDE * door.y + door.x + i;
                house.cells[cell] = DOORWAY + house.doorCount;
            }
            text.step();
            return true;
        }

        private int doorwayFault(Door door) {
            boolean taken = false;
            for (int i = 0; i < door.length; i++) {
                int what = door.across ? house.cellAt(door.x, door.y + i) : house.cellAt(door.x + i, door.y);
                if (what != WALL && what < DOORWAY) {
                    return 2;
                }
                taken = taken || what >= DOORWAY;
            }
            return taken ? 3 : 0;
        }

        private boolean readHangings(Door door) {
            door.first = text.number;
            if (!readHanging(door)) {
                return false;
            }
            for (int more = 0; more < HANGINGS && text.passWord(Word.MAY); more++) {
                if (!readHanging(door)) {
                    return false;
                }
            }
            return true;
        }

        private boolean readHanging(Door door) {
            if (!text.isNumberWithin(0, HANGINGS - 1)) {
                return false;
            }
            if (door.wasToldWith(text.number)) {
                return text.fail(3);
            }
            door.toldHangings |= 1 << text.number;
            text.step();
            return true;
        }

        private boolean readCosts(Door door) {
            if (!text.passWord(Word.COSTS)) {
                return true;
            }
            if (!text.isNumberWithin(1, MOST_COSTS)) {
                return false;
            }
            door.costs = text.number;
            text.step();
            return true;
        }

        private boolean readDraught() {
            if (house.draughtCount == House.MOST_DRAUGHTS) {
                return text.fail(4);
            }
            text.step();
            int before = 0;
            for (int i = 0; i < House.DRAUGHT_DOORS; i++) {
                int d = text.namedDoor(house);
                if (d == NONE) {
                    return false;
                }
                if ((before >> d & 1) == 1) {
                    return text.fail(3);
                }
                before |= 1 << d;
                house.draughts[House.DRAUGHT_DOORS * house.draughtCount + i] = d;
                text.step();
            }
            house.draughtCount++;
            return true;
        }

        private boolean readBed() {
            if (house.bed != NONE) {
                return text.fail(3);
            }
            text.step();
            if (!text.isNumberWithin(0, house.columns - 1)) {
                return false;
            }
            int x = text.number;
            text.step();
            if (!text.isNumberWithin(0, house.rows - 1)) {
                return false;
            }
            if (house.cellAt(x, text.number) != FLOOR) {
                return text.fail(2);
            }
            house.bed = SIDE * text.number + x;
            text.step();
            return true;
        }
    }

    /** A house as it is at one time: how its doors hang and are open, and where one stands. */
    private static final class Scene {
        final int[] hanging = new int[MOST_DOORS];
        final int[] angle = new int[MOST_DOORS];
        House house;
        int place = NONE;

        void enter(House told) {
            house = told;
            place = told.bed;
            Arrays.fill(angle, 0);
            for (int d = 0; d < told.doorCount; d++) {
                hanging[d] = told.doors[d].first;
            }
        }

        void copy(Scene other) {
            house = other.house;
            place = other.place;
            System.arraycopy(other.hanging, 0, hanging, 0, MOST_DOORS);
            System.arraycopy(other.angle, 0, angle, 0, MOST_DOORS);
        }

        boolean hasLeafOn(int cell) {
            for (int d = 0; d < house.doorCount; d++) {
                if (house.doors[d].leafHas(hanging[d], angle[d], cell)) {
                    return true;
                }
            }
            return false;
        }

        int openDoors() {
            int open = 0;
            for (int d = 0; d < house.doorCount; d++) {
                open |= angle[d] == 0 ? 0 : 1 << d;
            }
            return open;
        }

        boolean standsAt(int d) {
            if (place < 0) {
                return false;
            }
            Door door = house.doors[d];
            int doorway = ANGLES * hanging[d];
            int leaf = doorway + angle[d];
            long nearLow = (door.low[doorway] | door.low[leaf]) & cellsAbout(place, 0);
            long nearHigh = (door.high[doorway] | door.high[leaf]) & cellsAbout(place, HALF);
            return (nearLow | nearHigh) != 0;
        }

        /** The eight cells about one, as bits of the half of the rows that begins with the first one. */
        private static long cellsAbout(int cell, int first) {
            int y = cell / SIDE;
            long three = (7L << cell % SIDE) >> 1 & 1023;
            long bits = 0;
            for (int row = Math.max(first, y - 1); row <= Math.min(first + HALF - 1, y + 1); row++) {
                bits |= (row == y ? three & ~(1L << cell % SIDE) : three) << SIDE * (row - first);
            }
            return bits;
        }

        boolean isAct(int act) {
            return act >= WAIT && act < FIRST_SWING + 2 * house.doorCount;
        }

        int knockOf(int act) {
            if (act == WAIT) {
                return 0;
            }
            if (place < 0) {
                return 1;
            }
            if (act < FIRST_SWING) {
                return knockOfStep(act);
            }
            return standsAt(doorOf(act)) ? knockOfSwing(doorOf(act), angleAfter(act)) : 4;
        }

        private int knockOfStep(int side) {
            int x = place % SIDE + STEP_X[side];
            int y = place / SIDE + STEP_Y[side];
            if (!house.isOpenCell(x, y)) {
                return 2;
            }
            return hasLeafOn(SIDE * y + x) ? 3 : 0;
        }

        private int knockOfSwing(int d, int next) {
            if (next < 0 || next >= ANGLES) {
                return 5;
            }
            if (!house.doors[d].canBeAt(hanging[d], next)) {
                return 6;
            }
            return isInTheWay(d, next) ? 7 : 0;
        }

        private boolean isInTheWay(int d, int next) {
            Door door = house.doors[d];
            if (place >= 0 && door.leafHas(hanging[d], next, place)) {
                return true;
            }
            int leaf = ANGLES * hanging[d] + next;
            for (int e = 0; e < house.doorCount; e++) {
                int other = ANGLES * hanging[e] + angle[e];
                long shared = door.low[leaf] & house.doors[e].low[other] | door.high[leaf] & house.doors[e].high[other];
                if (e != d && shared != 0) {
                    return true;
                }
            }
            return false;
        }

        void perform(int act) {
            if (act >= FIRST_SWING) {
                angle[doorOf(act)] = angleAfter(act);
            } else if (act >= 0) {
                place += SIDE * STEP_Y[act] + STEP_X[act];
            }
        }

        /** Lets the draughts shut what they shut: how many times one did. */
        int endMinute() {
            int shuts = 0;
            for (int i = 0; i < house.draughtCount; i++) {
                int first = House.DRAUGHT_DOORS * i;
                int shut = house.draughts[first + 2];
                boolean blows = angle[house.draughts[first]] > 0 && angle[house.draughts[first + 1]] > 0;
                if (blows && angle[shut] > 0 && knockOfSwing(shut, angle[shut] - 1) == 0) {
                    angle[shut]--;
                    shuts++;
                }
            }
            return shuts;
        }

        /** Whether what an act of a day wants of a door is so. */
        boolean isSo(int act) {
            return act >= FIRST_SWING && lackOf(act) == 0;
        }

        int lackOf(int act) {
            int d = doorOf(act);
            if (act % 2 == 1) {
                return angle[d];
            }
            return (house.doors[d].canBeAt(hanging[d], 2) ? 2 : 1) - angle[d];
        }

        private int angleAfter(int act) {
            return angle[doorOf(act)] + (act % 2 == 0 ? 1 : -1);
        }

        private static int doorOf(int act) {
            return (act - FIRST_SWING) / 2;
        }
    }

    /** A day's acts, by the numbers of what takes a minute; never changed once it is read. */
    private static final class Day {
        private static final int MOST_BYTES = 600;
        private static final int MOST_ACTS = 60;
        private static final int MOST_TIMES = 30;

        final int[] acts = new int[MOST_ACTS];
        final int[] times = new int[MOST_ACTS];
        int size;

        static Day read(Text text, House house) {
            Day told = new Day();
            text.begin(MOST_BYTES);
            while (told.size <= MOST_ACTS && text.kind != Text.END) {
                if (!told.readAct(text, house) || !text.passSign(';')) {
                    return null;
                }
                told.size++;
            }
            return told;
        }

        private boolean readAct(Text text, House house) {
            boolean goes = text.isWord(Word.GO);
            boolean opens = text.isWord(Word.OPEN);
            boolean swings = opens || text.isWord(Word.SHUT);
            if (!goes && !swings && !text.isWord(Word.WAIT)) {
                return text.fail(1);
            }
            if (size == MOST_ACTS) {
                return text.fail(4);
            }
            text.step();
            if (swings) {
                return readSwing(text, house, opens ? 0 : 1);
            }
            acts[size] = goes ? sideOf(text) : WAIT;
            if (goes && acts[size] == NONE) {
                return text.fail(1);
            }
            if (goes) {
                text.step();
            }
            return readTimes(text);
        }

        private boolean readSwing(Text text, House house, int shuts) {
            int d = text.namedDoor(house);
            if (d == NONE) {
                return false;
            }
            acts[size] = FIRST_SWING + 2 * d + shuts;
            text.step();
            return true;
        }

        private static int sideOf(Text text) {
            if (text.isWord(Word.NORTH)) {
                return 0;
            }
            if (text.isWord(Word.EAST)) {
                return 1;
            }
            if (text.isWord(Word.SOUTH)) {
                return 2;
            }
            return text.isWord(Word.WEST) ? 3 : NONE;
        }

        private boolean readTimes(Text text) {
            if (!text.isNumberWithin(1, MOST_TIMES)) {
                return false;
            }
            times[size] = text.number;
            text.step();
            return true;
        }
    }

    /** A sentence as a row of steps, each ONE behind its parts; never changed once it is read. */
    private static final class Sentence {
        private static final int MOST_BYTES = 200;
        private static final int MOST_ONES = 20;
        private static final int MOST_WITHIN = 8;
        private static final int OR = 0;
        private static final int AND = 1;
        private static final int NOT = 2;
        private static final int OPEN = 3;
        private static final int FIT = 4;
        private static final int AT = 5;
        private static final int BITES = 6;
        private static final int ANGLE = 7;
        private static final int LENGTH = 8;
        private static final int SWEEPS = 9;
        private static final int MAY = 10;
        private static final int COSTS = 11;

        private final int[] kinds = new int[2 * MOST_ONES];
        private final int[] signs = new int[2 * MOST_ONES];
        private final int[] numbers = new int[2 * MOST_ONES];
        private int size;
        int ones;

        Sentence read(Text text, House house) {
            text.begin(MOST_BYTES);
            boolean good = readCond(text, house, 1);
            if (good && text.kind != Text.END) {
                good = text.fail(1);
            }
            return good ? this : null;
        }

        private boolean readCond(Text text, House house, int depth) {
            if (!readAll(text, house, depth)) {
                return false;
            }
            for (int more = 0; more < MOST_BYTES && text.passWord(Word.OR); more++) {
                if (!readAll(text, house, depth)) {
                    return false;
                }
                put(OR, 0, 0);
            }
            return true;
        }

        private boolean readAll(Text text, House house, int depth) {
            if (!readOne(text, house, depth)) {
                return false;
            }
            for (int more = 0; more < MOST_BYTES && text.passWord(Word.AND); more++) {
                if (!readOne(text, house, depth)) {
                    return false;
                }
                put(AND, 0, 0);
            }
            return true;
        }

        private boolean readOne(Text text, House house, int depth) {
            int kind = kindOf(text);
            if (kind == NONE && text.kind != '(') {
                return text.fail(1);
            }
            if (ones == MOST_ONES || depth > MOST_WITHIN) {
                return text.fail(4);
            }
            ones++;
            text.step();
            if (kind == NONE) {
                return readCond(text, house, depth + 1) && text.passSign(')');
            }
            if (kind == NOT) {
                return readOne(text, house, depth + 1) && put(NOT, 0, 0);
            }
            if (kind == BITES) {
                int d = text.namedDoor(house);
                if (d == NONE) {
                    return false;
                }
                text.step();
                return put(BITES, 0, d);
            }
            return kind < BITES ? put(kind, 0, 0) : readCompare(text, kind);
        }

        private boolean readCompare(Text text, int kind) {
            int sign = text.kind;
            if (sign != '<' && sign != '=' && sign != '>') {
                return text.fail(1);
            }
            text.step();
            if (text.kind != Text.NUMBER) {
                return text.fail(1);
            }
            int number = text.number;
            text.step();
            return put(kind, sign, number);
        }

        private boolean put(int kind, int sign, int number) {
            if (size >= kinds.length) {
                return false;
            }
            kinds[size] = kind;
            signs[size] = sign;
            numbers[size] = number;
            size++;
            return true;
        }

        private static int kindOf(Text text) {
            if (text.isWord(Word.NOT)) {
                return NOT;
            }
            if (text.isWord(Word.OPEN)) {
                return OPEN;
            }
            if (text.isWord(Word.FIT)) {
                return FIT;
            }
            if (text.isWord(Word.AT)) {
                return AT;
            }
            return text.isWord(Word.BITES) ? BITES : measureOf(text);
        }

        private static int measureOf(Text text) {
            if (text.isWord(Word.ANGLE)) {
                return ANGLE;
            }
            if (text.isWord(Word.LENGTH)) {
                return LENGTH;
            }
            if (text.isWord(Word.SWEEPS)) {
                return SWEEPS;
            }
            if (text.isWord(Word.MAY)) {
                return MAY;
            }
            return text.isWord(Word.COSTS) ? COSTS : NONE;
        }

        int saidOf(Scene scene) {
            int doors = 0;
            for (int d = 0; d < scene.house.doorCount; d++) {
                doors |= isSaidOf(scene, d) ? 1 << d : 0;
            }
            return doors;
        }

        /** The parts that are still to be joined stand as bits of one number, the latest lowest. */
        private boolean isSaidOf(Scene scene, int d) {
            int parts = 0;
            for (int i = 0; i < size; i++) {
                if (kinds[i] == OR) {
                    parts = parts >> 1 | parts & 1;
                } else if (kinds[i] == AND) {
                    parts = parts >> 1 & (parts | ~1);
                } else if (kinds[i] == NOT) {
                    parts ^= 1;
                } else {
                    parts = parts << 1 | (holds(scene, d, i) ? 1 : 0);
                }
            }
            return (parts & 1) == 1;
        }

        private boolean holds(Scene scene, int d, int i) {
            Door door = scene.house.doors[d];
            int h = scene.hanging[d];
            switch (kinds[i]) {
                case OPEN:
                    return scene.angle[d] > 0;
                case FIT:
                    return door.isFit(h);
                case AT:
                    return scene.standsAt(d);
                case BITES:
                    return bitesNow(scene, d, numbers[i]);
                case ANGLE:
                    return compares(scene.angle[d], i);
                case LENGTH:
                    return compares(door.length, i);
                case SWEEPS:
                    return compares(door.sweptCells(h), i);
                case MAY:
                    return compares(door.fitHangings(), i);
                default:
                    return compares(door.costs, i);
            }
        }

        private static boolean bitesNow(Scene scene, int d, int e) {
            if (d == e || !scene.house.hasDoor(e)) {
                return false;
            }
            return scene.house.doors[d].sharedCells(scene.hanging[d], scene.house.doors[e], scene.hanging[e]) > 0;
        }

        private boolean compares(int measure, int i) {
            if (signs[i] == '<') {
                return measure < numbers[i];
            }
            return signs[i] == '=' ? measure == numbers[i] : measure > numbers[i];
        }
    }

    /** Looks for hangings by which no door bites another; sets of hangings are bits, four to a door. */
    private static final class Hanger {
        static final int CHEAP_UNIT = 16;
        static final int FEW_UNIT = 1024;
        private static final int NO_KEY = 1 << 30;
        private static final int UNSOLVED = -1;

        /** Of each hanging those that it does not bite. */
        final long[] spares = new long[HANGINGS * MOST_DOORS];
        long fitting;
        House house;
        final int[] current = new int[MOST_DOORS];
        final int[] cheap = new int[MOST_DOORS];
        int cheapKey;
        final int[] few = new int[MOST_DOORS];
        int fewKey;
        final int[] order = new int[MOST_DOORS];
        int orderSize;
        private final int[] weights = new int[MOST_DOORS];
        private final int[] chosen = new int[MOST_DOORS];
        private final int[] best = new int[MOST_DOORS];
        private int bestKey;
        private int among;
        private int[] peaks;

        /** What was found for the same house and the same hangings is kept. */
        void look(Scene scene) {
            boolean same = house == scene.house;
            if (!same) {
                house = scene.house;
                relate();
            }
            for (int d = 0; d < house.doorCount; d++) {
                same = same && current[d] == scene.hanging[d];
                current[d] = scene.hanging[d];
            }
            if (!same) {
                cheapKey = UNSOLVED;
                fewKey = UNSOLVED;
            }
        }

        private void relate() {
            fitting = 0;
            for (int i = 0; i < HANGINGS * house.doorCount; i++) {
                Door door = house.doors[i / HANGINGS];
                fitting |= door.mayHang(i % HANGINGS) ? 1L << i : 0;
                spares[i] = 0;
                for (int j = 0; j < HANGINGS * house.doorCount; j++) {
                    Door other = house.doors[j / HANGINGS];
                    boolean spared = door == other || door.sharedCells(i % HANGINGS, other, j % HANGINGS) == 0;
                    spares[i] |= spared ? 1L << j : 0;
                }
            }
        }

        private int allDoors() {
            return (1 << house.doorCount) - 1;
        }

        static int hangingsLeft(long left, int d) {
            return (int) (left >>> HANGINGS * d) & 15;
        }

        private static boolean isLeft(long left, int d, int h) {
            return (left >>> HANGINGS * d + h & 1) == 1;
        }

        /** Of the doors from d on that matter now, each has a hanging left. */
        private boolean eachHasSome(long left, int d) {
            for (int e = d; e < house.doorCount; e++) {
                if ((among >> e & 1) == 1 && hangingsLeft(left, e) == 0) {
                    return false;
                }
            }
            return true;
        }

        private long leftBehind(long left, int d, int h) {
            return (left & spares[HANGINGS * d + h]) >>> HANGINGS * (d + 1);
        }

        boolean solveCheapest() {
            if (cheapKey == UNSOLVED) {
                for (int d = 0; d < house.doorCount; d++) {
                    weights[d] = CHEAP_UNIT * house.doors[d].costs + 1;
                }
                cheapKey = searchAmong(allDoors());
                System.arraycopy(best, 0, cheap, 0, MOST_DOORS);
            }
            return cheapKey != NO_KEY;
        }

        boolean solveFewest() {
            if (fewKey == UNSOLVED) {
                for (int d = 0; d < house.doorCount; d++) {
                    weights[d] = FEW_UNIT + house.doors[d].costs;
                }
                fewKey = searchAmong(allDoors());
                System.arraycopy(best, 0, few, 0, MOST_DOORS);
            }
            return fewKey != NO_KEY;
        }

        private int searchAmong(int doors) {
            among = doors;
            bestKey = NO_KEY;
            if (eachHasSome(fitting, 0)) {
                search(0, fitting, 0);
            }
            return bestKey;
        }

        /** Lesser hangings come first and a later one must be truly better, so that the first of like ones stays. */
        private void search(int d, long left, int key) {
            if (key >= bestKey) {
                return;
            }
            if (d >= house.doorCount) {
                bestKey = key;
                System.arraycopy(chosen, 0, best, 0, MOST_DOORS);
                return;
            }
            if ((among >> d & 1) == 0) {
                search(d + 1, left, key);
                return;
            }
            for (int h = 0; h < HANGINGS; h++) {
                if (isLeft(left, d, h) && !hasBetterTwin(left, d, h)) {
                    long rest = left & spares[HANGINGS * d + h];
                    chosen[d] = h;
                    if (eachHasSome(rest, d + 1)) {
                        search(d + 1, rest, key + (h == current[d] ? 0 : weights[d]));
                    }
                }
            }
        }

        /** Another hanging leaves the later doors just the same and is never worse: this one need not be tried. */
        private boolean hasBetterTwin(long left, int d, int h) {
            for (int g = 0; g < HANGINGS; g++) {
                boolean better = g == current[d] || g < h && h != current[d];
                boolean twin = g != h && isLeft(left, d, g) && leftBehind(left, d, g) == leftBehind(left, d, h);
                if (better && twin) {
                    return true;
                }
            }
            return false;
        }

        int countWays() {
            among = allDoors();
            return waysFrom(0, fitting);
        }

        private int waysFrom(int d, long left) {
            if (d >= house.doorCount) {
                return 1;
            }
            int sum = 0;
            int counted = 0;
            for (int h = 0; h < HANGINGS; h++) {
                if (isLeft(left, d, h) && (counted >> h & 1) == 0) {
                    int twins = twinsOf(left, d, h);
                    counted |= twins;
                    long rest = left & spares[HANGINGS * d + h];
                    int further = eachHasSome(rest, d + 1) ? waysFrom(d + 1, rest) : 0;
                    sum += Integer.bitCount(twins) * further;
                }
            }
            return sum;
        }

        private int twinsOf(long left, int d, int h) {
            int twins = 0;
            for (int g = 0; g < HANGINGS; g++) {
                boolean twin = isLeft(left, d, g) && leftBehind(left, d, g) == leftBehind(left, d, h);
                twins |= twin ? 1 << g : 0;
            }
            return twins;
        }

        int leastStuck() {
            Arrays.fill(weights, 0);
            int all = allDoors();
            if (searchAmong(all) != NO_KEY) {
                return 0;
            }
            for (int doors = 1; doors <= house.doorCount; doors++) {
                for (int set = 1; set <= all; set++) {
                    if (Integer.bitCount(set) == doors && searchAmong(set) == NO_KEY) {
                        return set;
                    }
                }
            }
            return all;
        }

        int bitingPairs(int[] hangings) {
            int pairs = 0;
            for (int d = 0; d < house.doorCount; d++) {
                for (int e = 0; e < d; e++) {
                    pairs += isLeft(spares[HANGINGS * d + hangings[d]], e, hangings[e]) ? 0 : 1;
                }
            }
            return pairs;
        }

        /** The order of the changes by the least peak that each set of doors already changed still leads to. */
        int orderChanges() {
            if (!solveCheapest()) {
                return NONE;
            }
            if (peaks == null) {
                peaks = new int[1 << MOST_DOORS];
            }
            int changes = 0;
            for (int d = 0; d < house.doorCount; d++) {
                changes |= cheap[d] == current[d] ? 0 : 1 << d;
            }
            for (int set = changes; set >= 0; set--) {
                if ((set & ~changes) == 0) {
                    peaks[set] = Math.max(pairsBehind(set), leastPeakBehind(set, changes));
                }
            }
            orderBelow(peaks[0], changes);
            return peaks[0];
        }

        private int pairsBehind(int set) {
            for (int d = 0; d < house.doorCount; d++) {
                chosen[d] = (set >> d & 1) == 1 ? cheap[d] : current[d];
            }
            return bitingPairs(chosen);
        }

        private int leastPeakBehind(int set, int changes) {
            int least = set == changes ? 0 : NO_KEY;
            for (int d = 0; d < house.doorCount; d++) {
                if (((changes & ~set) >> d & 1) == 1) {
                    least = Math.min(least, peaks[set | 1 << d]);
                }
            }
            return least;
        }

        private void orderBelow(int peak, int changes) {
            int set = 0;
            orderSize = 0;
            for (int turn = 0; turn < house.doorCount && set != changes; turn++) {
                int d = 0;
                while (d < house.doorCount - 1 && !leadsBelow(peak, set, changes, d)) {
                    d++;
                }
                set |= 1 << d;
                order[orderSize] = d;
                orderSize++;
            }
        }

        private boolean leadsBelow(int peak, int set, int changes, int d) {
            return ((changes & ~set) >> d & 1) == 1 && peaks[set | 1 << d] <= peak;
        }
    }

    /** What the latest hanging that was asked for forces. */
    private static final class Forcing {
        final int[] order = new int[MOST_DOORS];
        private final int[] hangings = new int[MOST_DOORS];
        int size;
        int set;
        int dead = NONE;

        void force(Hanger hanger, int d, int h) {
            int doors = hanger.house.doorCount;
            long left = hanger.fitting & hanger.spares[HANGINGS * d + h];
            size = 0;
            set = 0;
            dead = firstWith(0, left, d, doors);
            int next = firstWith(1, left, d, doors);
            while (dead == NONE && next != NONE && size < MOST_DOORS) {
                hangings[next] = onlyOneOf(Hanger.hangingsLeft(left, next));
                order[size] = next;
                size++;
                set |= 1 << next;
                left &= hanger.spares[HANGINGS * next + hangings[next]];
                dead = firstWith(0, left, d, doors);
                next = firstWith(1, left, d, doors);
            }
        }

        /** The first other door that was not forced yet and has so many hangings left. */
        private int firstWith(int many, long left, int d, int doors) {
            for (int e = 0; e < doors; e++) {
                boolean free = e != d && (set >> e & 1) == 0;
                if (free && Integer.bitCount(Hanger.hangingsLeft(left, e)) == many) {
                    return e;
                }
            }
            return NONE;
        }

        private static int onlyOneOf(int bits) {
            int h = 0;
            while (h < HANGINGS - 1 && bits >> h != 1) {
                h++;
            }
            return h;
        }

        int hangingOf(int e) {
            return e >= 0 && e < MOST_DOORS && (set >> e & 1) == 1 ? hangings[e] : NONE;
        }
    }

    /** Looks for ways minute by minute, over all that place and angles can be. */
    private static final class Paths {
        private static final int MOST_SEARCHED = 5;
        private static final int CELLS = SIDE * SIDE;
        private static final int STATES = CELLS * 243;
        private static final int ACTS = 16;
        private static final int START = 1;

        int[] acts = new int[32];
        int length;
        private final Scene scene = new Scene();
        /** Of each state what it was come to by: 0 by nothing, START, or that and one more than its forerunner and act. */
        private int[] origins;
        private int[] queue;
        private int tail;

        boolean canSearch(Scene start) {
            return start.place >= 0 && start.house.doorCount <= MOST_SEARCHED;
        }

        /** The state by which the cell is come to soonest; NONE, and all states seen, if there is none. */
        int find(Scene start, int cell) {
            makeRows();
            Arrays.fill(origins, 0);
            scene.copy(start);
            tail = 0;
            see(stateNow(), START);
            for (int head = 0; head < tail && head < STATES; head++) {
                if (queue[head] % CELLS == cell) {
                    return queue[head];
                }
                expand(queue[head]);
            }
            return NONE;
        }

        private void makeRows() {
            if (origins == null || queue == null) {
                origins = new int[STATES];
                queue = new int[STATES];
            }
        }

        private void expand(int state) {
            int most = FIRST_SWING + 2 * scene.house.doorCount;
            load(state);
            for (int act = 0; act < most; act++) {
                if (scene.knockOf(act) == 0) {
                    scene.perform(act);
                    scene.endMinute();
                    see(stateNow(), START + 1 + ACTS * state + act);
                    load(state);
                }
            }
        }

        private void see(int state, int origin) {
            if (origins[state] == 0 && tail < STATES) {
                origins[state] = origin;
                queue[tail] = state;
                tail++;
            }
        }

        private int stateNow() {
            int angles = 0;
            for (int d = scene.house.doorCount - 1; d >= 0; d--) {
                angles = ANGLES * angles + scene.angle[d];
            }
            return CELLS * angles + scene.place;
        }

        private void load(int state) {
            scene.place = state % CELLS;
            int angles = state / CELLS;
            for (int d = 0; d < scene.house.doorCount; d++) {
                scene.angle[d] = angles % ANGLES;
                angles /= ANGLES;
            }
        }

        private int forerunner(int state) {
            return (origins[state] - START - 1) / ACTS;
        }

        int minutesTo(int state) {
            int minutes = 0;
            int at = state;
            while (minutes < STATES && origins[at] != START) {
                at = forerunner(at);
                minutes++;
            }
            return minutes;
        }

        void keep(int state) {
            length = minutesTo(state);
            if (length > acts.length) {
                acts = new int[length];
            }
            int at = state;
            for (int minute = length - 1; minute >= 0; minute--) {
                acts[minute] = (origins[at] - START - 1) % ACTS;
                at = forerunner(at);
            }
        }

        int countSeen() {
            int cells = 0;
            for (int cell = 0; cell < CELLS; cell++) {
                boolean seen = false;
                for (int state = cell; state < STATES && !seen; state += CELLS) {
                    seen = origins[state] != 0;
                }
                cells += seen ? 1 : 0;
            }
            return cells;
        }

        /** Steps alone never change an angle, so that one row of cells is enough, for any number of doors. */
        int countSteps(Scene start) {
            makeRows();
            Arrays.fill(origins, 0);
            scene.copy(start);
            tail = 0;
            see(start.place, START);
            for (int head = 0; head < tail && head < CELLS; head++) {
                for (int side = 0; side < FIRST_SWING; side++) {
                    scene.place = queue[head];
                    if (scene.knockOf(side) == 0) {
                        scene.perform(side);
                        see(scene.place, START);
                    }
                }
            }
            return tail;
        }
    }
}
