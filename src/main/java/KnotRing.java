import java.util.Arrays;

/**
 * Cars on a ring of two lanes, who see late what is before them and go by habits told as texts.
 * The words in capitals are those of the document's "Terms".
 */
public final class KnotRing {
    public static final int BAD = -1, NOT = -2, FULL = -3, NONE = -4, NULL = -11, CAST = -12, INDEX = -13, SIZE = -14;

    private static final int CARS = 12, LANES = 2, HABITS = 3, BOARDS = 4, LOOPS = 4, IMAGES = 2, SHEETS = 4;
    private static final int LEAST_LENGTH = 12, GREATEST_LENGTH = 99, GREATEST_PACE = 9, GREATEST_LATE = 3;
    private static final int TAPE = 100, CLAUSES = 6, OPEN_AT_ONCE = 4, FAULT = -20;
    private static final int BOOLEANS = 0, BYTES = 1, INTS = 2, NO_ROW = -1, ROW = 36;
    private static final int TICKS_A_CALL = 200, TICKS_FORETOLD = 500, LAST_NOW = 99999;
    private static final int CARS_TO_CALM = 8, CALMING_HABIT = 2;
    private static final int COST_BAD = BAD - 100000;

    private final Reader reader;
    private final Ring here;
    /** One ring serves all that is foretold, so that no call makes objects for it. */
    private final Ring foretold;
    private final Ring[] images = new Ring[IMAGES];
    private final boolean[] imaged = new boolean[IMAGES];
    private final Knots knots = new Knots();
    private final Sheet[] sheets = new Sheet[SHEETS];

    public KnotRing() {
        Reader blank = new Reader();
        Habit none = new Habit(blank);
        reader = blank;
        here = new Ring(none);
        foretold = new Ring(none);
        for (int n = 0; n < IMAGES; n++) {
            images[n] = new Ring(none);
        }
        for (int s = 0; s < SHEETS; s++) {
            sheets[s] = new Sheet();
        }
    }

    // ---- 1 the ring, cars, habits

    public int ring(int what, int v) {
        if (what == 0) {
            return changeLength(v);
        }
        if (what != 1 || !within(v, 1, GREATEST_PACE)) {
            return BAD;
        }
        int was = here.most;
        here.most = v;
        return was;
    }

    private int changeLength(int v) {
        if (!within(v, LEAST_LENGTH, GREATEST_LENGTH)) {
            return BAD;
        }
        if (here.cars > 0 || here.boards > 0 || here.loops > 0) {
            return NOT;
        }
        int was = here.length;
        here.length = v;
        return was;
    }

    public int car(int lane, int cell, int pace) {
        if (!within(lane, 0, LANES - 1) || !isCell(cell) || !isPace(pace)) {
            return BAD;
        }
        if (here.isTaken(lane, cell)) {
            return NOT;
        }
        return here.cars >= CARS ? FULL : here.addCar(lane, cell, pace);
    }

    public int evenly(int n, int pace) {
        if (!within(n, 1, CARS) || n > here.length || !isPace(pace)) {
            return BAD;
        }
        here.cars = 0;
        here.firstStood = NONE;
        for (int i = 0; i < n; i++) {
            here.addCar(0, i * here.length / n, pace);
        }
        return n;
    }

    public int set(int car, int what, int v) {
        if (!isCar(car)) {
            return BAD;
        }
        Car c = here.car[car];
        if (what == 0 && within(v, 0, HABITS - 1)) {
            int was = c.habit;
            c.habit = v;
            return was;
        }
        if (what == 1 && within(v, 0, GREATEST_LATE)) {
            int was = c.late;
            c.late = v;
            return was;
        }
        return BAD;
    }

    public int told(int car, int what) {
        if (!isCar(car)) {
            return BAD;
        }
        here.lookFrom(car);
        Car c = here.car[car];
        switch (what) {
            case 0: return c.cell;
            case 1: return c.lane;
            case 2: return c.pace;
            case 3: return c.gap;
            case 4: return c.ahead;
            case 5: return c.other;
            case 6: return c.went;
            case 7: return c.changes;
            default: return BAD;
        }
    }

    public int type(long w, int n) {
        if (!within(n, 1, 8)) {
            return BAD;
        }
        for (int k = 0; k < n; k++) {
            if (!within(byteOf(w, k), 32, 126)) {
                return BAD;
            }
        }
        if (reader.size + n > TAPE) {
            return FULL;
        }
        for (int k = n - 1; k >= 0; k--) {
            reader.append(byteOf(w, k));
        }
        return reader.size;
    }

    public int habit(int number) {
        if (!within(number, 0, HABITS - 1)) {
            return BAD;
        }
        boolean sound = reader.readHabit();
        reader.size = 0;
        if (!sound) {
            return FAULT - reader.place;
        }
        here.habits[number] = new Habit(reader);
        return reader.clauses;
    }

    public int holds(int car) {
        if (!isCar(car)) {
            return BAD;
        }
        here.lookFrom(car);
        Car c = here.car[car];
        return here.habits[c.habit].clauseFor(c.gap, c.lead, c.other, c.pace);
    }

    public int board(int from, int to, int limit) {
        if (!isCell(from) || !isCell(to) || !isPace(limit)) {
            return BAD;
        }
        return here.boards >= BOARDS ? FULL : here.addBoard(from, to, limit);
    }

    public int loop(int cell) {
        if (!isCell(cell)) {
            return BAD;
        }
        return here.loops >= LOOPS ? FULL : here.addLoop(cell);
    }

    public int looped(int loop, int what) {
        if (loop < 0 || loop >= here.loops || !within(what, 0, 1)) {
            return BAD;
        }
        return what == 0 ? here.loopCars[loop] : here.loopPaces[loop];
    }

    // ---- 2 ticks

    public int tap(int car) {
        if (!isCar(car)) {
            return BAD;
        }
        boolean was = here.car[car].tapped;
        here.car[car].tapped = true;
        return was ? 1 : 0;
    }

    public int ticks(int n) {
        if (!within(n, 1, TICKS_A_CALL)) {
            return BAD;
        }
        if (here.now + n > LAST_NOW) {
            return FULL;
        }
        here.run(n);
        return here.now;
    }

    public int count(int what) {
        switch (what) {
            case 0: return here.cars;
            case 1: return here.habits[0].clauses;
            case 2: return here.habits[1].clauses;
            case 3: return here.habits[2].clauses;
            case 4: return here.boards;
            case 5: return here.loops;
            case 6: return knots.findIn(here);
            case 7: return knots.carsIn(here);
            case 8: return here.now;
            case 9: return here.isEven() ? 1 : 0;
            default: return BAD;
        }
    }

    public int knot(int i, int what) {
        if (i < 0 || !within(what, 0, 1)) {
            return BAD;
        }
        if (i >= knots.findIn(here)) {
            return NONE;
        }
        return what == 0 ? knots.head[i] : knots.size[i];
    }

    public int first() {
        return here.firstStood;
    }

    // ---- 3 what is foretold

    public int cost(int car, int n, int who) {
        if (!isCar(car) || !within(n, 1, TICKS_A_CALL) || who != -1 && !isCar(who)) {
            return COST_BAD;
        }
        foretell(car, true, n);
        int tapped = foretold.cellsGone(who);
        foretell(car, false, n);
        return foretold.cellsGone(who) - tapped;
    }

    public int after(int car, int n) {
        if (!isCar(car) || !within(n, 1, TICKS_A_CALL)) {
            return BAD;
        }
        foretell(car, true, n);
        return knots.findIn(foretold);
    }

    public int calmed(int car, int n) {
        if (!isCar(car) || !within(n, 1, TICKS_A_CALL)) {
            return BAD;
        }
        if (here.cars > CARS_TO_CALM) {
            return NOT;
        }
        int sets = 1 << here.cars;
        for (int few = 0; few <= here.cars; few++) {
            for (int bits = 0; bits < sets; bits++) {
                if (Integer.bitCount(bits) == few && isCalmWith(bits, car, n)) {
                    return bits;
                }
            }
        }
        return NONE;
    }

    private boolean isCalmWith(int bits, int car, int n) {
        foretold.takeFrom(here);
        for (int c = 0; c < here.cars; c++) {
            if ((bits >> c & 1) == 1) {
                foretold.car[c].habit = CALMING_HABIT;
            }
        }
        foretold.car[car].tapped = true;
        foretold.run(n);
        return knots.findIn(foretold) == 0;
    }

    public int round(int n) {
        if (!within(n, 1, TICKS_FORETOLD)) {
            return BAD;
        }
        foretold.takeFrom(here);
        for (int t = 1; t <= n; t++) {
            foretold.tick();
            if (foretold.isLike(here)) {
                return t;
            }
        }
        return NONE;
    }

    public int evens(int n) {
        if (!within(n, 0, TICKS_FORETOLD)) {
            return BAD;
        }
        foretold.takeFrom(here);
        for (int t = 0; t <= n; t++) {
            if (foretold.isEven()) {
                return t;
            }
            foretold.tick();
        }
        return NONE;
    }

    public int image(int n) {
        if (!within(n, 0, IMAGES - 1)) {
            return BAD;
        }
        images[n].takeFrom(here);
        imaged[n] = true;
        return 1;
    }

    public int restore(int n) {
        if (!within(n, 0, IMAGES - 1)) {
            return BAD;
        }
        if (!imaged[n]) {
            return NONE;
        }
        here.takeFrom(images[n]);
        return 1;
    }

    public int paces(int sheet, int lane, int i) {
        if (!isSheet(sheet) || !within(lane, BYTES, INTS)) {
            return BAD;
        }
        Sheet row = sheets[sheet];
        int found = row.lookedAt(lane, i, here.cars);
        if (found < 0) {
            return found;
        }
        for (int c = 0; c < here.cars; c++) {
            if (!isPace(row.items[i + c])) {
                return NOT;
            }
        }
        for (int c = 0; c < here.cars; c++) {
            here.car[c].pace = row.items[i + c];
        }
        return here.cars;
    }

    public int taps(int sheet, int i) {
        if (!isSheet(sheet)) {
            return BAD;
        }
        Sheet row = sheets[sheet];
        int found = row.lookedAt(BOOLEANS, i, here.cars);
        if (found < 0) {
            return found;
        }
        int tapped = 0;
        for (int c = 0; c < here.cars; c++) {
            here.car[c].tapped = row.items[i + c] != 0;
            tapped += row.items[i + c];
        }
        return tapped;
    }

    /** Lets the other ring go on from here, with this one car TAPPED or not, the others as they are. */
    private void foretell(int car, boolean tapped, int n) {
        foretold.takeFrom(here);
        foretold.car[car].tapped = tapped;
        foretold.run(n);
    }

    // ---- 4 sheets

    public int sheet(int sheet, int lane, int n) {
        if (!isSheet(sheet) || !within(lane, BOOLEANS, INTS) || n > ROW) {
            return BAD;
        }
        if (n < 0) {
            return SIZE;
        }
        sheets[sheet].begin(lane, n);
        return n;
    }

    public int drop(int sheet) {
        if (!isSheet(sheet)) {
            return BAD;
        }
        Sheet row = sheets[sheet];
        if (row.lane == NO_ROW) {
            return NULL;
        }
        row.lane = NO_ROW;
        return row.size;
    }

    public int item(int sheet, int lane, int i, int v) {
        if (!isSheet(sheet) || !within(lane, BOOLEANS, INTS)) {
            return BAD;
        }
        int found = sheets[sheet].lookedAt(lane, i, 1);
        if (found < 0) {
            return found;
        }
        sheets[sheet].put(i, v);
        return 1;
    }

    public int copy(int from, int i, int to, int j, int n) {
        if (!isSheet(from) || !isSheet(to)) {
            return BAD;
        }
        Sheet source = sheets[from];
        Sheet goal = sheets[to];
        if (source.lane == NO_ROW || goal.lane == NO_ROW) {
            return NULL;
        }
        if (source.lane != goal.lane) {
            return CAST;
        }
        if (!source.hasItems(i, n) || !goal.hasItems(j, n)) {
            return INDEX;
        }
        System.arraycopy(source.items, i, goal.items, j, n);
        return n;
    }

    private static boolean within(int v, int least, int greatest) {
        return v >= least && v <= greatest;
    }

    private static boolean isPace(int v) {
        return within(v, 0, GREATEST_PACE);
    }

    private static boolean isSheet(int sheet) {
        return within(sheet, 0, SHEETS - 1);
    }

    private static int byteOf(long w, int k) {
        return (int) (w >>> 8 * k) & 255;
    }

    private boolean isCell(int cell) {
        return within(cell, 0, here.length - 1);
    }

    private boolean isCar(int car) {
        return within(car, 0, here.cars - 1);
    }

    private static final class Car {
        /** No LATE is above 3, so the note of this TICK and the three ahead of it are enough. */
        private static final int NOTES_KEPT = 4, NOTE = 3;

        int cell, lane, pace, habit, late, went, changes;
        boolean tapped;
        /** How many notes it has made in all; the newest NOTES_KEPT of them stand in notes, each at its number's rest. */
        private int noted;
        private final int[] notes = new int[NOTES_KEPT * NOTE];
        /** What stood before it when it last looked: free cells, a car's number, AHEAD's PACE less its own, free cells. */
        int gap, ahead, lead, other;
        private int wanted;
        private boolean would;

        void begin(int atLane, int atCell, int withPace) {
            lane = atLane;
            cell = atCell;
            pace = withPace;
            habit = 0;
            late = 0;
            went = 0;
            changes = 0;
            tapped = false;
            noted = 0;
        }

        void takeFrom(Car that) {
            cell = that.cell;
            lane = that.lane;
            pace = that.pace;
            habit = that.habit;
            late = that.late;
            went = that.went;
            changes = that.changes;
            tapped = that.tapped;
            noted = that.noted;
            System.arraycopy(that.notes, 0, notes, 0, notes.length);
        }

        void note() {
            int at = placeOf(noted);
            notes[at] = gap;
            notes[at + 1] = lead;
            notes[at + 2] = other;
            noted++;
        }

        private static int placeOf(int number) {
            return (number & NOTES_KEPT - 1) * NOTE;
        }

        void decide(Habit by) {
            int seen = placeOf(Math.max(noted - 1 - late, 0));
            int clause = by.clauseFor(notes[seen], notes[seen + 1], notes[seen + 2], pace);
            wanted = clause < 0 ? pace : by.paceBy(clause, pace);
            would = clause >= 0 && by.changesBy(clause);
        }

        void settlePace(int limit) {
            pace = tapped ? 0 : Math.max(0, Math.min(wanted, Math.min(limit, gap)));
            tapped = false;
        }

        boolean isLike(Car that) {
            return cell == that.cell && lane == that.lane && pace == that.pace && remembersLike(that);
        }

        /** Notes that are not there are unlike notes that are. */
        private boolean remembersLike(Car that) {
            int newest = Math.min(late, noted);
            if (newest != Math.min(that.late, that.noted)) {
                return false;
            }
            for (int back = 1; back <= newest; back++) {
                int mine = placeOf(noted - back);
                int its = placeOf(that.noted - back);
                for (int k = 0; k < NOTE; k++) {
                    if (notes[mine + k] != that.notes[its + k]) {
                        return false;
                    }
                }
            }
            return true;
        }
    }

    /** All that an image keeps. */
    private static final class Ring {
        int length = 30, most = 5, now = 0, firstStood = NONE;
        int cars = 0, boards = 0, loops = 0;
        final Car[] car = new Car[CARS];
        /** Habits never change, so rings share them. */
        final Habit[] habits = new Habit[HABITS];
        private final int[] boardFrom = new int[BOARDS], boardTo = new int[BOARDS], boardLimit = new int[BOARDS];
        private final int[] loopCell = new int[LOOPS];
        final int[] loopCars = new int[LOOPS], loopPaces = new int[LOOPS];

        Ring(Habit none) {
            for (int c = 0; c < CARS; c++) {
                car[c] = new Car();
            }
            for (int h = 0; h < HABITS; h++) {
                habits[h] = none;
            }
        }

        void takeFrom(Ring that) {
            length = that.length;
            most = that.most;
            now = that.now;
            firstStood = that.firstStood;
            cars = that.cars;
            for (int c = 0; c < cars; c++) {
                car[c].takeFrom(that.car[c]);
            }
            for (int h = 0; h < HABITS; h++) {
                habits[h] = that.habits[h];
            }
            takeBoardsAndLoops(that);
        }

        private void takeBoardsAndLoops(Ring that) {
            boards = that.boards;
            for (int b = 0; b < boards; b++) {
                boardFrom[b] = that.boardFrom[b];
                boardTo[b] = that.boardTo[b];
                boardLimit[b] = that.boardLimit[b];
            }
            loops = that.loops;
            for (int p = 0; p < loops; p++) {
                loopCell[p] = that.loopCell[p];
                loopCars[p] = that.loopCars[p];
                loopPaces[p] = that.loopPaces[p];
            }
        }

        int addCar(int lane, int cell, int pace) {
            car[cars].begin(lane, cell, pace);
            return cars++;
        }

        int addBoard(int from, int to, int limit) {
            boardFrom[boards] = from;
            boardTo[boards] = to;
            boardLimit[boards] = limit;
            return boards++;
        }

        int addLoop(int cell) {
            loopCell[loops] = cell;
            loopCars[loops] = 0;
            loopPaces[loops] = 0;
            return loops++;
        }

        boolean isTaken(int lane, int cell) {
            for (int c = 0; c < cars; c++) {
                if (car[c].lane == lane && car[c].cell == cell) {
                    return true;
                }
            }
            return false;
        }

        boolean isEven() {
            for (int c = 0; c < cars; c++) {
                if (car[c].pace == 0 || car[c].pace != car[0].pace) {
                    return false;
                }
            }
            return true;
        }

        boolean isLike(Ring that) {
            for (int c = 0; c < cars; c++) {
                if (!car[c].isLike(that.car[c])) {
                    return false;
                }
            }
            return true;
        }

        /** How many cells one car went, or all of them (who -1). */
        int cellsGone(int who) {
            if (who >= 0) {
                return car[who].went;
            }
            int all = 0;
            for (int c = 0; c < cars; c++) {
                all += car[c].went;
            }
            return all;
        }

        private int cellsOn(int from, int to) {
            return to >= from ? to - from : to - from + length;
        }

        void lookFrom(int number) {
            Car me = car[number];
            int gap = length - 1;
            int ahead = number;
            int other = length;
            for (int c = 0; c < cars; c++) {
                if (c != number) {
                    int on = cellsOn(me.cell, car[c].cell);
                    if (car[c].lane != me.lane) {
                        other = on < other ? on : other;
                    } else if (on - 1 < gap) {
                        gap = on - 1;
                        ahead = c;
                    }
                }
            }
            me.gap = gap;
            me.ahead = ahead;
            me.lead = car[ahead].pace - me.pace;
            me.other = other;
        }

        void lookFromAll() {
            for (int c = 0; c < cars; c++) {
                lookFrom(c);
            }
        }

        void run(int n) {
            for (int t = 0; t < n; t++) {
                tick();
            }
        }

        void tick() {
            lookFromAll();
            for (int c = 0; c < cars; c++) {
                car[c].note();
                car[c].decide(habits[car[c].habit]);
            }
            if (changeLanes()) {
                lookFromAll();
            }
            for (int c = 0; c < cars; c++) {
                car[c].settlePace(limitAt(car[c].cell));
            }
            for (int c = 0; c < cars; c++) {
                goOn(car[c]);
            }
            now++;
            markFirst();
        }

        private boolean changeLanes() {
            boolean changed = false;
            for (int c = 0; c < cars; c++) {
                Car me = car[c];
                if (me.would && hasRoomBeside(me)) {
                    me.lane = LANES - 1 - me.lane;
                    me.changes++;
                    changed = true;
                }
            }
            return changed;
        }

        private boolean hasRoomBeside(Car me) {
            int free = length;
            int paceBehind = 0;
            for (int c = 0; c < cars; c++) {
                if (car[c].lane != me.lane) {
                    int between = cellsOn(car[c].cell, me.cell) - 1;
                    if (between < free) {
                        free = between;
                        paceBehind = car[c].pace;
                    }
                }
            }
            // one that stands just beside is -1 cells behind, which is less than any pace
            return free >= paceBehind;
        }

        private int limitAt(int cell) {
            int limit = most;
            for (int b = 0; b < boards; b++) {
                if (cellsOn(boardFrom[b], cell) <= cellsOn(boardFrom[b], boardTo[b])) {
                    limit = Math.min(limit, boardLimit[b]);
                }
            }
            return limit;
        }

        private void goOn(Car me) {
            for (int p = 0; p < loops; p++) {
                int on = cellsOn(me.cell, loopCell[p]);
                if (on > 0 && on <= me.pace) {
                    loopCars[p]++;
                    loopPaces[p] += me.pace;
                }
            }
            int cell = me.cell + me.pace;
            me.cell = cell >= length ? cell - length : cell;
            me.went += me.pace;
        }

        private void markFirst() {
            if (isEven()) {
                firstStood = NONE;
            }
            for (int c = 0; c < cars && firstStood == NONE; c++) {
                if (car[c].pace == 0) {
                    firstStood = c;
                }
            }
        }
    }

    /** The KNOTS of a ring, in their order. */
    private static final class Knots {
        private static final int SLOW = 1;

        final int[] head = new int[CARS], size = new int[CARS];
        private int found;
        private final int[] behind = new int[CARS];

        int findIn(Ring ring) {
            found = 0;
            ring.lookFromAll();
            for (int c = 0; c < ring.cars; c++) {
                behind[ring.car[c].ahead] = c;
            }
            for (int c = 0; c < ring.cars; c++) {
                if (isHead(ring, c)) {
                    insert(ring, c, sizeBehind(ring, c));
                }
            }
            return found;
        }

        int carsIn(Ring ring) {
            findIn(ring);
            int all = 0;
            for (int k = 0; k < found; k++) {
                all += size[k];
            }
            return all;
        }

        private boolean isHead(Ring ring, int number) {
            if (ring.car[number].pace > SLOW) {
                return false;
            }
            return ring.car[ring.car[number].ahead].pace > SLOW || isLeastOfSlowLane(ring, number);
        }

        private boolean isLeastOfSlowLane(Ring ring, int number) {
            for (int c = 0; c < ring.cars; c++) {
                boolean mate = ring.car[c].lane == ring.car[number].lane;
                if (mate && (c < number || ring.car[c].pace > SLOW)) {
                    return false;
                }
            }
            return true;
        }

        private int sizeBehind(Ring ring, int number) {
            int many = 1;
            int at = behind[number];
            for (int c = 0; c < ring.cars && at != number && ring.car[at].pace <= SLOW; c++) {
                many++;
                at = behind[at];
            }
            return many;
        }

        private void insert(Ring ring, int number, int many) {
            if (many < 2) {
                return;
            }
            int at = found;
            while (at > 0 && comesAhead(ring.car[number], ring.car[head[at - 1]])) {
                head[at] = head[at - 1];
                size[at] = size[at - 1];
                at--;
            }
            head[at] = number;
            size[at] = many;
            found++;
        }

        private static boolean comesAhead(Car one, Car two) {
            return one.cell != two.cell ? one.cell < two.cell : one.lane < two.lane;
        }
    }

    /**
     * A HABIT as a chain of claims: each tells which claim is asked next if it holds, and if not.
     * A next one below 0 is the clause that holds (turned over by ~); one behind the last claim: none does.
     */
    private static final class Habit {
        final int clauses;
        private final int[] subject, relation, number, ifSo, ifNot;
        private final int[] sign, digit, change;

        Habit(Reader r) {
            clauses = r.clauses;
            subject = Arrays.copyOf(r.subject, r.claims);
            relation = Arrays.copyOf(r.relation, r.claims);
            number = Arrays.copyOf(r.number, r.claims);
            ifSo = Arrays.copyOf(r.ifSo, r.claims);
            ifNot = Arrays.copyOf(r.ifNot, r.claims);
            sign = Arrays.copyOf(r.sign, r.clauses);
            digit = Arrays.copyOf(r.digit, r.clauses);
            change = Arrays.copyOf(r.change, r.clauses);
        }

        int clauseFor(int gap, int lead, int other, int pace) {
            int at = 0;
            for (int asked = 0; asked < subject.length && at >= 0 && at < subject.length; asked++) {
                int value = pace;
                switch (subject[at]) {
                    case 'g': value = gap; break;
                    case 'd': value = lead; break;
                    case 'o': value = other; break;
                    default: break;
                }
                at = isSo(value, relation[at], number[at]) ? ifSo[at] : ifNot[at];
            }
            return at < 0 ? ~at : NONE;
        }

        private static boolean isSo(int value, int relation, int number) {
            switch (relation) {
                case '<': return value < number;
                case '>': return value > number;
                case '=': return value == number;
                default: return true;
            }
        }

        int paceBy(int clause, int pace) {
            switch (sign[clause]) {
                case '+': return pace + digit[clause];
                case '-': return pace - digit[clause];
                default: return digit[clause];
            }
        }

        boolean changesBy(int clause) {
            return change[clause] == 1;
        }
    }

    /**
     * THE TAPE and what reads it. Where a claim leads is not known before what follows it is read,
     * so claims lead to labels at first: a label is fixed to a place, or joined to an older label, later on.
     */
    private static final class Reader {
        private static final int END = -1, ALWAYS = '*', UNJOINED = -1;
        /** A byte of the tape makes at most a claim and a case, with a label each; a clause makes two more. */
        private static final int LABELS = 2 * TAPE + 2 * CLAUSES + 2;

        private final int[] tape = new int[TAPE];
        int size = 0;
        /** Where it reads; behind a reading that failed, the place of the byte that can't stand. */
        int place = 0;
        private int claims = 0, clauses = 0, labels = 0;
        private final int[] subject = new int[TAPE], relation = new int[TAPE], number = new int[TAPE];
        private final int[] ifSo = new int[TAPE], ifNot = new int[TAPE];
        private final int[] sign = new int[CLAUSES], digit = new int[CLAUSES], change = new int[CLAUSES];
        private final int[] joined = new int[LABELS], fixed = new int[LABELS];

        void append(int b) {
            if (size < TAPE) {
                tape[size] = b;
                size++;
            }
        }

        boolean readHabit() {
            place = 0;
            claims = 0;
            clauses = 0;
            labels = 0;
            for (int k = 0; k < CLAUSES; k++) {
                int holds = newLabel();
                int fails = newLabel();
                if (!readTest(holds, fails, 0) || !take(':') || !readAct()) {
                    return false;
                }
                endClause(holds, fails);
                if (next() == END) {
                    followLabels();
                    return true;
                }
                if (clauses == CLAUSES || !take(';')) {
                    return false;
                }
            }
            return false;
        }

        private void endClause(int holds, int fails) {
            fix(holds, ~clauses);
            fix(fails, claims);
            clauses++;
        }

        private boolean readAct() {
            int how = next();
            if (how != '+' && how != '-' && how != '=') {
                return false;
            }
            place++;
            if (!isDigit(next())) {
                return false;
            }
            sign[clauses] = how;
            digit[clauses] = tape[place] - '0';
            place++;
            change[clauses] = take('c') ? 1 : 0;
            return true;
        }

        private boolean readTest(int so, int not, int open) {
            for (int k = 0; k < TAPE; k++) {
                int fails = newLabel();
                if (!readCase(so, fails, open)) {
                    return false;
                }
                if (!take('|')) {
                    join(fails, not);
                    return true;
                }
                fix(fails, claims);
            }
            return false;
        }

        private boolean readCase(int so, int not, int open) {
            for (int k = 0; k < TAPE; k++) {
                int holds = newLabel();
                boolean sound = take('!') ? readBare(not, holds, open) : readBare(holds, not, open);
                if (!sound) {
                    return false;
                }
                if (!take('&')) {
                    join(holds, so);
                    return true;
                }
                fix(holds, claims);
            }
            return false;
        }

        private boolean readBare(int so, int not, int open) {
            int what = next();
            if (what == '(') {
                if (open >= OPEN_AT_ONCE) {
                    return false;
                }
                place++;
                return readTest(so, not, open + 1) && take(')');
            }
            if (what == ALWAYS) {
                place++;
                addClaim(what, ALWAYS, 0);
            } else if (!readComparison()) {
                return false;
            }
            ifSo[claims - 1] = so;
            ifNot[claims - 1] = not;
            return true;
        }

        private boolean readComparison() {
            int what = next();
            if (what != 'g' && what != 'd' && what != 'o' && what != 'v') {
                return false;
            }
            place++;
            int how = next();
            if (how != '<' && how != '>' && how != '=') {
                return false;
            }
            place++;
            boolean below = take('-');
            if (!isDigit(next())) {
                return false;
            }
            int value = readNumber();
            addClaim(what, how, below ? -value : value);
            return true;
        }

        /** Only a digit that stands at once behind the first one belongs to the number. */
        private int readNumber() {
            int value = tape[place] - '0';
            place++;
            if (place < size && isDigit(tape[place])) {
                value = 10 * value + tape[place] - '0';
                place++;
            }
            return value;
        }

        private int next() {
            while (place < size && tape[place] == ' ') {
                place++;
            }
            return place < size ? tape[place] : END;
        }

        private boolean take(int b) {
            if (next() != b) {
                return false;
            }
            place++;
            return true;
        }

        private static boolean isDigit(int b) {
            return b >= '0' && b <= '9';
        }

        private void addClaim(int what, int how, int value) {
            subject[claims] = what;
            relation[claims] = how;
            number[claims] = value;
            claims++;
        }

        private int newLabel() {
            int label = Math.min(labels, LABELS - 1);
            joined[label] = UNJOINED;
            fixed[label] = 0;
            labels = label + 1;
            return label;
        }

        private void join(int label, int older) {
            joined[label] = older;
        }

        private void fix(int label, int at) {
            fixed[label] = at;
        }

        private void followLabels() {
            for (int c = 0; c < claims; c++) {
                ifSo[c] = follow(ifSo[c]);
                ifNot[c] = follow(ifNot[c]);
            }
        }

        private int follow(int label) {
            int at = label;
            for (int k = 0; k < labels && joined[at] != UNJOINED; k++) {
                at = joined[at];
            }
            return fixed[at];
        }
    }

    /** A row is held as ints whatever its kind, so that taking one for another never needs a cast. */
    private static final class Sheet {
        int lane = NO_ROW;
        int size = 0;
        final int[] items = new int[ROW];

        void begin(int kind, int many) {
            lane = kind;
            size = many;
            Arrays.fill(items, 0);
        }

        /** NULL, CAST or INDEX if many items from i on can't be had of it as a row of that kind; else 0. */
        int lookedAt(int kind, int i, int many) {
            if (lane == NO_ROW) {
                return NULL;
            }
            if (lane != kind) {
                return CAST;
            }
            return hasItems(i, many) ? 0 : INDEX;
        }

        boolean hasItems(int i, int many) {
            return many >= 0 && i >= 0 && i <= size - many;
        }

        void put(int i, int v) {
            if (lane == BOOLEANS) {
                items[i] = v != 0 ? 1 : 0;
            } else {
                items[i] = lane == BYTES ? (byte) v : v;
            }
        }
    }
}
