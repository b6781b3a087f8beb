import java.util.Arrays;

/** Boxes of kinds on a plane, in squares that split and cells; see ../shared/DOC.md for its promises. */
public final class LooseGrid {
    public static final int NONE = -1, BAD = -2, STATE = -3, FULL = -4;
    public static final long NO = Long.MIN_VALUE;

    private static final int NOTHING = -11, CAST = -12, PLACE = -13, SIZE = -14;
    private static final int NO_MORE = -5;
    private static final int NO_SPEEDS = -99;
    private static final int SPEED_REFUSED = -10000;

    private static final int PLANE = 128;
    private static final int PLANE_BITS = 7;
    private static final int MOST_BOXES = 40;
    private static final int MOST_SIDE = 32;
    private static final int MOST_SPEED = 9;
    private static final int MOST_STEPS = 40;
    private static final int MOST_SEEN_STEPS = 12;
    private static final int MOST_TIME = 9999;
    private static final int MOST_ROOM = 9;
    private static final int MOST_PATH = 99999;
    private static final int DEEPEST = 5;
    private static final int CELLS = 8;
    private static final int CELL = 16;
    private static final int MOST_SEEN = 5;
    private static final int MOST_PLAN = 10;
    private static final int MOST_BOOK = 8;
    private static final int MOST_SIGNS = 100;
    private static final int MOST_CLAUSES = 8;
    private static final int TAPES = 6;
    private static final int MOST_ITEMS = 60;

    private static final int BOX = 0, MOVER = 1, BOUNCER = 2, WRAPPER = 3;
    private static final int NO_SORT = -1, BYTES = 0, SHORTS = 1, INTS = 2, BOOLEANS = 4;
    private static final int PLAN_STEP = 0, PLAN_GONE = 1, PLAN_TURN = 2, PLAN_LAYER = 3;

    private final World now;
    private final World kept;
    // What is asked of later steps is tried out here, so that asking makes no objects.
    private final World trial;
    private boolean isKept;
    private final Reader reader;
    private final Tape[] tapes;

    public LooseGrid() {
        now = new World();
        kept = new World();
        trial = new World();
        isKept = false;
        reader = new Reader();
        tapes = new Tape[TAPES];
        for (int n = 0; n < TAPES; n++) {
            tapes[n] = new Tape();
        }
    }

    // ---- boxes

    public int box(int kind, int layer, int x, int y, int width, int height) {
        if (!isWithin(kind, BOX, WRAPPER) || !isWithin(layer, 0, 1)) {
            return NONE;
        }
        if (!isWithin(width, 1, MOST_SIDE) || !isWithin(height, 1, MOST_SIDE)) {
            return BAD;
        }
        if (!isOnPlane(x, y, width, height)) {
            return STATE;
        }
        Box made = now.nextBox();
        if (made == null) {
            return FULL;
        }
        made.become(kind, layer, x, y, width, height);
        return now.came - 1;
    }

    public int speed(int box, int vx, int vy) {
        Box one = now.find(box);
        if (one == null) {
            return SPEED_REFUSED + NONE;
        }
        if (!isWithin(vx, -MOST_SPEED, MOST_SPEED) || !isWithin(vy, -MOST_SPEED, MOST_SPEED)) {
            return SPEED_REFUSED + BAD;
        }
        if (one.kind == BOX) {
            return SPEED_REFUSED + STATE;
        }
        int was = 100 * (one.vx + 50) + one.vy + 50;
        one.vx = vx;
        one.vy = vy;
        return was;
    }

    public int move(int box, int x, int y) {
        Box one = now.find(box);
        if (one == null) {
            return NONE;
        }
        if (!isOnPlane(x, y, one.width, one.height)) {
            return STATE;
        }
        int dx = x - one.x;
        int dy = y - one.y;
        one.x = x;
        one.y = y;
        return dx * dx + dy * dy;
    }

    public int drop(int box) {
        Box one = now.find(box);
        if (one == null) {
            return NONE;
        }
        one.isThere = false;
        return now.present();
    }

    public int room(int n) {
        if (!isWithin(n, 1, MOST_ROOM)) {
            return BAD;
        }
        int was = now.room;
        now.room = n;
        return was;
    }

    public int feed(int sign) {
        if (!isWithin(sign, 0, 127)) {
            return BAD;
        }
        return reader.append(sign) ? reader.length : FULL;
    }

    public int boxes() {
        int fault = reader.parse();
        reader.length = 0;
        if (fault >= 0) {
            return -10 - fault;
        }
        int before = now.came;
        for (int n = 0; n < reader.clauses && n < MOST_CLAUSES; n++) {
            letIn(reader.rows[n]);
        }
        return now.came - before;
    }

    /** A CLAUSE comes as if it were told by box and speed, so that the same is refused. */
    private void letIn(int[] row) {
        int number = box(row[0], row[1], row[2], row[3], row[4], row[5]);
        if (number >= 0) {
            speed(number, row[6], row[7]);
        }
    }

    public int of(int box, int what) {
        Box one = now.find(box);
        if (one == null) {
            return NONE;
        }
        switch (what) {
            case 0: return one.kind;
            case 1: return one.layer;
            case 2: return one.x;
            case 3: return one.y;
            case 4: return one.width;
            case 5: return one.height;
            case 6: return one.vx + 50;
            case 7: return one.vy + 50;
            case 8: return now.pathOf(one);
            case 9: return depthOf(now.pathOf(one));
            case 10: return one.cellsTouched();
            case 11: return now.meetings(one);
            default: return NONE;
        }
    }

    // ---- squares, cells

    public int square(int path, int what) {
        if (!isWithin(what, 0, 3) || !now.isSquare(path)) {
            return NONE;
        }
        int depth = depthOf(path);
        int index = indexOf(path);
        switch (what) {
            case 0: return now.inSquare(depth, index);
            case 1: return now.wholeIn(depth, index);
            case 2: return now.isSplit(depth, index) ? 1 : 0;
            default: return now.leastIn(depth, index);
        }
    }

    public int cell(int x, int y, int what) {
        if (!isWithin(x, 0, CELLS - 1) || !isWithin(y, 0, CELLS - 1) || what < 0) {
            return NONE;
        }
        if (what == 0) {
            return now.touching(x, y);
        }
        return now.touchingNumber(x, y, what - 1);
    }

    public int told(int what) {
        switch (what) {
            case 0: return now.time;
            case 1: return now.squares();
            case 2: return now.greatestDepth();
            case 3: return now.pairs();
            case 4: return now.cellsTouched();
            case 5: return now.room;
            default: return NONE;
        }
    }

    // ---- what is where

    public int far(int box, int x, int y) {
        Box one = now.find(box);
        if (one == null || !isPlace(x, y)) {
            return NONE;
        }
        return one.farFrom(x, y);
    }

    public int nearest(int x, int y, int test, int k) {
        if (!isPlace(x, y) || !isWithin(test, 0, 4) || k < 0) {
            return NONE;
        }
        return now.nearestNumber(x, y, test, k);
    }

    public long window(int x, int y, int width, int height) {
        if (width < 1 || height < 1 || !isOnPlane(x, y, width, height)) {
            return NO;
        }
        return now.within(x, y, width, height);
    }

    public int pair(int k) {
        if (k < 0) {
            return NONE;
        }
        return now.pairNumber(k);
    }

    // ---- steps

    public int pass(int n) {
        if (!isWithin(n, 0, MOST_STEPS)) {
            return BAD;
        }
        if (now.time > MOST_TIME - n) {
            return STATE;
        }
        for (int step = 0; step < n; step++) {
            now.step();
        }
        return now.time;
    }

    public int on(int n, int what) {
        int about = what / 100;
        int number = what % 100;
        boolean isOfBox = isWithin(about, 1, 3) && now.find(number) != null;
        if (what != 0 && !isOfBox) {
            return NONE;
        }
        if (!isWithin(n, 0, MOST_STEPS)) {
            return BAD;
        }
        trial.takeBoxes(now);
        for (int step = 0; step < n; step++) {
            trial.step();
        }
        return onTrial(about, trial.find(number));
    }

    private int onTrial(int about, Box one) {
        if (about == 0) {
            return trial.pairs();
        }
        if (one == null) {
            return NONE;
        }
        switch (about) {
            case 1: return one.x;
            case 2: return one.y;
            default: return trial.pathOf(one);
        }
    }

    public int first(int a, int b) {
        Box one = now.find(a);
        Box other = now.find(b);
        if (one == null || other == null) {
            return NONE;
        }
        if (one.layer == other.layer) {
            return STATE;
        }
        trial.takeBoxes(now);
        return firstMeeting(trial.find(a), trial.find(b));
    }

    private static int firstMeeting(Box one, Box other) {
        if (one == null || other == null) {
            return NONE;
        }
        for (int step = 0; step <= MOST_STEPS; step++) {
            if (one.meets(other)) {
                return step;
            }
            one.step();
            other.step();
        }
        return NO_MORE;
    }

    // ---- seen, odds

    public int see(int box, int n, int x) {
        if (box == -1) {
            return now.seen.empty();
        }
        if (now.find(box) == null) {
            return NONE;
        }
        if (!isWithin(n, 0, MOST_SEEN_STEPS) || !isWithin(x, 0, PLANE - 1)) {
            return BAD;
        }
        return now.seen.append(box, n, x);
    }

    public int speeds(int box, int what) {
        Box one = now.find(box);
        if (one == null || !isWithin(what, 0, 1)) {
            return NONE;
        }
        if (one.kind == BOX) {
            return STATE;
        }
        int least = NO_SPEEDS;
        int many = 0;
        for (int vx = MOST_SPEED; vx >= -MOST_SPEED; vx--) {
            if (wouldBeSeen(box, vx)) {
                least = vx;
                many++;
            }
        }
        return what == 0 ? many : least;
    }

    /** Whether all of SEEN is so, were vx the VX of that BOX now. */
    private boolean wouldBeSeen(int box, int vx) {
        for (int row = 0; row < now.seen.size; row++) {
            int number = now.seen.value(row, 0);
            Box one = now.find(number);
            if (one == null) {
                return false;
            }
            Box tried = trial.box[0];
            tried.take(one);
            if (number == box) {
                tried.vx = vx;
            }
            for (int step = 0; step < now.seen.value(row, 1); step++) {
                tried.step();
            }
            if (tried.x != now.seen.value(row, 2)) {
                return false;
            }
        }
        return true;
    }

    public long odds(int box, int part) {
        if (now.find(box) == null || !isWithin(part, 0, 1)) {
            return NO;
        }
        int points = 0;
        int hits = 0;
        for (int x = CELL / 2; x < PLANE; x += CELL) {
            for (int y = CELL / 2; y < PLANE; y += CELL) {
                points++;
                if (now.nearestNumber(x, y, 0, 0) == box) {
                    hits++;
                }
            }
        }
        return partOfFraction(hits, points, part);
    }

    public long mean(int part) {
        int many = now.present();
        if (many == 0 || !isWithin(part, 0, 1)) {
            return NO;
        }
        return partOfFraction(now.area(), many, part);
    }

    // ---- plans, books

    public int plan(int what, int n) {
        if (what == -1) {
            return now.plan.empty();
        }
        if (!isWithin(what, PLAN_STEP, PLAN_LAYER)) {
            return NONE;
        }
        if (what != PLAN_STEP && now.find(n) == null) {
            return NONE;
        }
        return now.plan.append(what, n, 0);
    }

    public int ends(int what) {
        if (!isWithin(what, 0, 1)) {
            return NONE;
        }
        trial.takeBoxes(now);
        for (int row = 0; row < now.plan.size; row++) {
            carryOut(now.plan.value(row, 0), now.plan.value(row, 1));
        }
        return what == 0 ? trial.pairs() : trial.squares();
    }

    private void carryOut(int what, int number) {
        if (what == PLAN_STEP) {
            trial.step();
            return;
        }
        Box one = trial.find(number);
        if (one == null) {
            return;
        }
        if (what == PLAN_GONE) {
            one.isThere = false;
        } else if (what == PLAN_TURN) {
            one.vx = -one.vx;
            one.vy = -one.vy;
        } else {
            one.layer = 1;
        }
    }

    public int book(int box, int path) {
        if (box == -1) {
            return now.book.empty();
        }
        if (now.find(box) == null) {
            return NONE;
        }
        if (!isWithin(path, 0, MOST_PATH)) {
            return BAD;
        }
        return now.book.append(box, path, 0);
    }

    public int looked() {
        for (int row = 0; row < now.book.size; row++) {
            Box one = now.find(now.book.value(row, 0));
            if (one == null || now.pathOf(one) != now.book.value(row, 1)) {
                return row;
            }
        }
        return NO_MORE;
    }

    // ---- judging, the image, tapes

    public int judge(int tape, int i) {
        Tape row = findTape(tape);
        if (row == null) {
            return NONE;
        }
        if (row.sort != NO_SORT && row.sort != BYTES) {
            return CAST;
        }
        if (now.came == 0) {
            return NO_MORE;
        }
        if (i < 0) {
            return 100;
        }
        for (int number = 0; number < now.came; number++) {
            // i is subtracted, as a sum of the two could wrap around
            if (number >= row.length - i) {
                return 100 + number;
            }
            Box one = now.find(number);
            int due = one == null ? -1 : one.x;
            if (row.items[i + number] != due) {
                return number;
            }
        }
        return NO_MORE;
    }

    public int image() {
        kept.takeAll(now);
        isKept = true;
        return now.present();
    }

    public int undo() {
        if (!isKept) {
            return STATE;
        }
        now.takeAll(kept);
        return now.present();
    }

    public int taken(int box, int k) {
        if (!isWithin(k, BOX, WRAPPER)) {
            return BAD;
        }
        Box one = now.find(box);
        if (one == null) {
            return NOTHING;
        }
        return one.isOfKind(k) ? one.kind : CAST;
    }

    public int count(int what) {
        switch (what) {
            case 0: return now.came;
            case 1: return now.present();
            case 2: return now.seen.size;
            case 3: return now.plan.size;
            case 4: return now.book.size;
            case 5: return reader.length;
            default: return BAD;
        }
    }

    public int tape(int tape, int sort, int n) {
        Tape row = findTape(tape);
        if (row == null) {
            return NONE;
        }
        if (sort == NO_SORT) {
            row.hold(NO_SORT, 0);
            return 1;
        }
        if (!isWithin(sort, BYTES, BOOLEANS) || n > MOST_ITEMS) {
            return BAD;
        }
        if (n < 0) {
            return SIZE;
        }
        row.hold(sort, n);
        return 1;
    }

    public int item(int tape, int i, long v) {
        Tape row = findTape(tape);
        if (row == null) {
            return NONE;
        }
        if (row.sort == NO_SORT) {
            return NOTHING;
        }
        if (!isWithin(i, 0, row.length - 1)) {
            return PLACE;
        }
        row.items[i] = row.lowestBits(v);
        return 1;
    }

    public long read(int tape, int i) {
        Tape row = findTape(tape);
        if (row == null || !isWithin(i, 0, row.length - 1)) {
            return NO;
        }
        return row.items[i];
    }

    public int shift(int tape, int i, int other, int j, int n) {
        Tape from = findTape(tape);
        Tape to = findTape(other);
        if (from == null || to == null) {
            return NONE;
        }
        if (from.sort == NO_SORT || to.sort == NO_SORT) {
            return NOTHING;
        }
        if (from.sort != to.sort) {
            return CAST;
        }
        if (n < 0 || !isWithin(i, 0, from.length - n) || !isWithin(j, 0, to.length - n)) {
            return PLACE;
        }
        System.arraycopy(from.items, i, to.items, j, n);
        return n;
    }

    private Tape findTape(int number) {
        return isWithin(number, 0, TAPES - 1) ? tapes[number] : null;
    }

    // ---- small helps

    private static boolean isWithin(int value, int least, int most) {
        return value >= least && value <= most;
    }

    private static boolean isPlace(int x, int y) {
        return isWithin(x, 0, PLANE - 1) && isWithin(y, 0, PLANE - 1);
    }

    /** Width and height are 1 or more here, so that nothing wraps around. */
    private static boolean isOnPlane(int x, int y, int width, int height) {
        return isWithin(x, 0, PLANE - width) && isWithin(y, 0, PLANE - height);
    }

    private static int depthOf(int path) {
        int depth = 0;
        for (int rest = path; rest > 0 && depth < 10; rest /= 10) {
            depth++;
        }
        return depth;
    }

    /** The place of a PATH's SQUARE among those of its DEPTH: row by row of them, from the least x on. */
    private static int indexOf(int path) {
        int column = 0;
        int row = 0;
        int bit = 1;
        for (int rest = path; rest > 0 && bit < PLANE; rest /= 10) {
            int quarter = rest % 10 - 1;
            column += (quarter & 1) * bit;
            row += (quarter >> 1 & 1) * bit;
            bit *= 2;
        }
        return row * bit + column;
    }

    private static long partOfFraction(int above, int below, int part) {
        int divisor = greatestDivisor(above, below);
        return (part == 0 ? above : below) / divisor;
    }

    /** Never 0, so that it can divide. */
    private static int greatestDivisor(int a, int b) {
        int greater = a;
        int lesser = b;
        // Euclid's rests at least halve in two rounds
        for (int round = 0; round < 100 && lesser != 0; round++) {
            int rest = greater % lesser;
            greater = lesser;
            lesser = rest;
        }
        return Math.max(greater, 1);
    }

    // ---- classes

    private static final class Box {
        int kind, layer, x, y, width, height, vx, vy;
        boolean isThere;

        void become(int newKind, int newLayer, int newX, int newY, int newWidth, int newHeight) {
            kind = newKind;
            layer = newLayer;
            x = newX;
            y = newY;
            width = newWidth;
            height = newHeight;
            vx = 0;
            vy = 0;
            isThere = true;
        }

        void take(Box other) {
            become(other.kind, other.layer, other.x, other.y, other.width, other.height);
            vx = other.vx;
            vy = other.vy;
            isThere = other.isThere;
        }

        boolean isOfKind(int k) {
            return k == kind || k == BOX || k == MOVER && kind != BOX;
        }

        void step() {
            if (kind == WRAPPER) {
                x = Math.floorMod(x + vx, PLANE + 1 - width);
                y = Math.floorMod(y + vy, PLANE + 1 - height);
            } else if (kind != BOX) {
                stepToRim(PLANE - width, PLANE - height);
            }
        }

        private void stepToRim(int rimX, int rimY) {
            int aimX = x + vx;
            int aimY = y + vy;
            x = Math.max(0, Math.min(rimX, aimX));
            y = Math.max(0, Math.min(rimY, aimY));
            if (kind == BOUNCER) {
                vx = x == aimX ? vx : -vx;
                vy = y == aimY ? vy : -vy;
            }
        }

        boolean covers(int left, int top, int wide, int high) {
            return x < left + wide && left < x + width && y < top + high && top < y + height;
        }

        boolean touches(int column, int row) {
            return covers(column * CELL, row * CELL, CELL, CELL);
        }

        int cellsTouched() {
            int columns = (x + width - 1) / CELL - x / CELL + 1;
            int rows = (y + height - 1) / CELL - y / CELL + 1;
            return columns * rows;
        }

        boolean meets(Box other) {
            return layer != other.layer && covers(other.x, other.y, other.width, other.height);
        }

        int farFrom(int px, int py) {
            int dx = gap(px, x, width);
            int dy = gap(py, y, height);
            return dx * dx + dy * dy;
        }

        private static int gap(int place, int from, int size) {
            return place < from ? from - place : Math.max(0, place - (from + size - 1));
        }

        boolean passes(int test) {
            switch (test) {
                case 0: return true;
                case 1: return layer == 0;
                case 2: return layer == 1;
                case 3: return kind != BOX;
                default: return width * height >= 16;
            }
        }

        /** The place, among those of that DEPTH, of the SQUARE in which it lies whole; -1: in none. */
        int wholeIndex(int depth) {
            int bits = PLANE_BITS - depth;
            int column = x >> bits;
            int row = y >> bits;
            boolean isWhole = x + width - 1 >> bits == column && y + height - 1 >> bits == row;
            return isWhole ? (row << depth) + column : -1;
        }

        /** The QUARTER of a SQUARE of 1 DEPTH less that its first place is in, as a digit of a PATH. */
        int digit(int depth) {
            int bits = PLANE_BITS - depth;
            return (x >> bits & 1) + 2 * (y >> bits & 1) + 1;
        }
    }

    /** What can be kept by an image and gone back to. */
    private static final class World {
        final Box[] box;
        final int[] tally;
        final Rows seen, plan, book;
        int came, time, room;

        World() {
            box = new Box[MOST_BOXES];
            for (int n = 0; n < MOST_BOXES; n++) {
                box[n] = new Box();
            }
            tally = new int[1 << 2 * (DEEPEST - 1)];
            seen = new Rows(MOST_SEEN);
            plan = new Rows(MOST_PLAN);
            book = new Rows(MOST_BOOK);
            came = 0;
            time = 0;
            room = 3;
        }

        void takeBoxes(World other) {
            came = other.came;
            time = other.time;
            room = other.room;
            for (int n = 0; n < came; n++) {
                box[n].take(other.box[n]);
            }
        }

        void takeAll(World other) {
            takeBoxes(other);
            seen.take(other.seen);
            plan.take(other.plan);
            book.take(other.book);
        }

        Box find(int number) {
            return isWithin(number, 0, came - 1) && box[number].isThere ? box[number] : null;
        }

        /** The next number's BOX, yet to be filled; null: all have come. */
        Box nextBox() {
            if (came >= MOST_BOXES) {
                return null;
            }
            came++;
            return box[came - 1];
        }

        int present() {
            int many = 0;
            for (int n = 0; n < came; n++) {
                if (box[n].isThere) {
                    many++;
                }
            }
            return many;
        }

        int area() {
            int sum = 0;
            for (int n = 0; n < came; n++) {
                if (box[n].isThere) {
                    sum += box[n].width * box[n].height;
                }
            }
            return sum;
        }

        void step() {
            for (int n = 0; n < came; n++) {
                box[n].step();
            }
            time++;
        }

        int wholeIn(int depth, int index) {
            int many = 0;
            for (int n = 0; n < came; n++) {
                if (box[n].isThere && box[n].wholeIndex(depth) == index) {
                    many++;
                }
            }
            return many;
        }

        boolean isSplit(int depth, int index) {
            return depth < DEEPEST && wholeIn(depth, index) > room;
        }

        int pathOf(Box one) {
            int path = 0;
            for (int depth = 0; depth < DEEPEST; depth++) {
                boolean goesDeeper = isSplit(depth, one.wholeIndex(depth)) && one.wholeIndex(depth + 1) >= 0;
                if (!goesDeeper) {
                    return path;
                }
                path = path * 10 + one.digit(depth + 1);
            }
            return path;
        }

        boolean isSquare(int path) {
            if (path < 0 || depthOf(path) > DEEPEST) {
                return false;
            }
            for (int rest = path; rest > 0; rest /= 10) {
                int above = rest / 10;
                if (!isWithin(rest % 10, 1, 4) || !isSplit(depthOf(above), indexOf(above))) {
                    return false;
                }
            }
            return true;
        }

        /** A SQUARE that is SPLIT leaves to its QUARTERS what lies whole in one of them. */
        private static boolean isIn(Box one, int depth, int index, boolean isSplit) {
            boolean isLeft = isSplit && one.wholeIndex(depth + 1) >= 0;
            return one.isThere && one.wholeIndex(depth) == index && !isLeft;
        }

        int inSquare(int depth, int index) {
            boolean isSplit = isSplit(depth, index);
            int many = 0;
            for (int n = 0; n < came; n++) {
                if (isIn(box[n], depth, index, isSplit)) {
                    many++;
                }
            }
            return many;
        }

        int leastIn(int depth, int index) {
            boolean isSplit = isSplit(depth, index);
            for (int n = 0; n < came; n++) {
                if (isIn(box[n], depth, index, isSplit)) {
                    return n;
                }
            }
            return NO_MORE;
        }

        /** As what lies whole in a SQUARE lies whole in those around it, each that is full enough is there. */
        int splitAt(int depth) {
            Arrays.fill(tally, 0);
            int many = 0;
            for (int n = 0; n < came; n++) {
                int index = box[n].isThere ? box[n].wholeIndex(depth) : -1;
                if (isWithin(index, 0, tally.length - 1)) {
                    tally[index]++;
                    many += tally[index] == room + 1 ? 1 : 0;
                }
            }
            return many;
        }

        int squares() {
            int many = 1;
            for (int depth = 0; depth < DEEPEST; depth++) {
                many += 4 * splitAt(depth);
            }
            return many;
        }

        int greatestDepth() {
            int depth = 0;
            while (depth < DEEPEST && splitAt(depth) > 0) {
                depth++;
            }
            return depth;
        }

        int touching(int column, int row) {
            int many = 0;
            for (int n = 0; n < came; n++) {
                if (box[n].isThere && box[n].touches(column, row)) {
                    many++;
                }
            }
            return many;
        }

        int touchingNumber(int column, int row, int k) {
            int before = 0;
            for (int n = 0; n < came; n++) {
                if (box[n].isThere && box[n].touches(column, row)) {
                    if (before == k) {
                        return n;
                    }
                    before++;
                }
            }
            return NO_MORE;
        }

        int cellsTouched() {
            int many = 0;
            for (int column = 0; column < CELLS; column++) {
                for (int row = 0; row < CELLS; row++) {
                    if (touchingNumber(column, row, 0) >= 0) {
                        many++;
                    }
                }
            }
            return many;
        }

        int nearestNumber(int px, int py, int test, int k) {
            if (k >= came) {
                return NO_MORE;
            }
            int last = -1;
            for (int n = 0; n <= k; n++) {
                last = nextNearest(px, py, test, last);
                if (last < 0) {
                    return NO_MORE;
                }
            }
            return last;
        }

        /** The first of those behind the last one (-1: of all), by FAR and number; -1: there is none. */
        private int nextNearest(int px, int py, int test, int last) {
            int lastFar = isWithin(last, 0, came - 1) ? box[last].farFrom(px, py) : -1;
            int best = -1;
            int bestFar = 0;
            for (int n = 0; n < came; n++) {
                if (!box[n].isThere || !box[n].passes(test)) {
                    continue;
                }
                int itsFar = box[n].farFrom(px, py);
                boolean isBehind = itsFar > lastFar || itsFar == lastFar && n > last;
                if (isBehind && (best < 0 || itsFar < bestFar)) {
                    best = n;
                    bestFar = itsFar;
                }
            }
            return best;
        }

        long within(int left, int top, int wide, int high) {
            long bits = 0;
            for (int n = 0; n < came; n++) {
                if (box[n].isThere && box[n].covers(left, top, wide, high)) {
                    bits |= 1L << n;
                }
            }
            return bits;
        }

        int meetings(Box one) {
            int many = 0;
            for (int n = 0; n < came; n++) {
                if (box[n].isThere && one.meets(box[n])) {
                    many++;
                }
            }
            return many;
        }

        int pairs() {
            int many = 0;
            for (int n = 0; n < came; n++) {
                if (box[n].isThere && box[n].layer == 0) {
                    many += meetings(box[n]);
                }
            }
            return many;
        }

        int pairNumber(int k) {
            int before = 0;
            for (int a = 0; a < came; a++) {
                if (!box[a].isThere || box[a].layer != 0) {
                    continue;
                }
                for (int b = 0; b < came; b++) {
                    if (box[b].isThere && box[a].meets(box[b])) {
                        if (before == k) {
                            return 100 * a + b;
                        }
                        before++;
                    }
                }
            }
            return NO_MORE;
        }
    }

    /** Rows of up to three numbers, made once. */
    private static final class Rows {
        static final int COLUMNS = 3;
        final int[] values;
        final int limit;
        int size;

        Rows(int most) {
            limit = most;
            values = new int[most * COLUMNS];
            size = 0;
        }

        int empty() {
            size = 0;
            return 0;
        }

        int append(int a, int b, int c) {
            if (size >= limit) {
                return FULL;
            }
            values[size * COLUMNS] = a;
            values[size * COLUMNS + 1] = b;
            values[size * COLUMNS + 2] = c;
            size++;
            return size;
        }

        int value(int row, int column) {
            int at = row * COLUMNS + column;
            return isWithin(at, 0, values.length - 1) ? values[at] : 0;
        }

        void take(Rows other) {
            size = Math.min(other.size, limit);
            for (int at = 0; at < size * COLUMNS && at < other.values.length; at++) {
                values[at] = other.values[at];
            }
        }
    }

    /** THE TEXT, and the CLAUSES that were read from it last. */
    private static final class Reader {
        final byte[] text;
        final int[][] rows;
        int length, clauses, at, fault;

        Reader() {
            text = new byte[MOST_SIGNS];
            rows = new int[MOST_CLAUSES][8];
            length = 0;
            clauses = 0;
            at = 0;
            fault = -1;
        }

        boolean append(int sign) {
            if (length >= MOST_SIGNS) {
                return false;
            }
            text[length] = (byte) sign;
            length++;
            return true;
        }

        /** The FAULT; -1: there is none. */
        int parse() {
            at = 0;
            fault = -1;
            clauses = 0;
            boolean isMore = true;
            while (isMore && clauses < MOST_CLAUSES) {
                parseClause(rows[clauses]);
                clauses++;
                isMore = fault < 0 && clauses < MOST_CLAUSES && signHere() == ';';
                at += isMore ? 1 : 0;
            }
            if (at < length) {
                fail(at);
            }
            return fault;
        }

        private void parseClause(int[] row) {
            row[0] = parseKind();
            row[1] = parseNumber(1, 0, 1);
            parseSign(',');
            row[2] = parseNumber(3, 0, PLANE - 1);
            parseSign(',');
            row[3] = parseNumber(3, 0, PLANE - 1);
            parseSign(':');
            row[4] = parseNumber(2, 1, MOST_SIDE);
            parseSign('x');
            row[5] = parseNumber(2, 1, MOST_SIDE);
            boolean isSpeedTold = fault < 0 && signHere() == '>';
            at += isSpeedTold ? 1 : 0;
            row[6] = isSpeedTold ? parseSpeed() : 0;
            row[7] = isSpeedTold ? parseSpeed() : 0;
        }

        /** -1: the end. */
        private int signHere() {
            return at >= 0 && at < length ? text[at] : -1;
        }

        /** The first FAULT stays. */
        private void fail(int place) {
            if (fault < 0) {
                fault = place;
            }
        }

        private void parseSign(char due) {
            if (fault < 0 && signHere() == due) {
                at++;
            } else {
                fail(at);
            }
        }

        private int parseKind() {
            int kind = kindOf(signHere());
            if (kind < 0) {
                fail(at);
                return BOX;
            }
            at++;
            return kind;
        }

        private static int kindOf(int sign) {
            switch (sign) {
                case 'b': return BOX;
                case 'm': return MOVER;
                case 'o': return BOUNCER;
                case 'w': return WRAPPER;
                default: return -1;
            }
        }

        private int parseNumber(int mostDigits, int least, int most) {
            int value = 0;
            int digits = 0;
            while (fault < 0 && digits < mostDigits && isWithin(signHere(), '0', '9')) {
                value = value * 10 + signHere() - '0';
                if (value > most) {
                    fail(at);
                }
                digits++;
                at++;
            }
            if (digits == 0) {
                fail(at);
            }
            if (value < least) {
                fail(at - 1);
            }
            return value;
        }

        private int parseSpeed() {
            boolean isLess = signHere() == '-';
            parseSign(isLess ? '-' : '+');
            int value = parseNumber(1, 0, MOST_SPEED);
            return isLess ? -value : value;
        }
    }

    /** The items of every sort stand in one row of longs, so that no TAPE makes a new one. */
    private static final class Tape {
        final long[] items;
        int sort, length;

        Tape() {
            items = new long[MOST_ITEMS];
            sort = NO_SORT;
            length = 0;
        }

        void hold(int newSort, int newLength) {
            Arrays.fill(items, 0L);
            sort = newSort;
            length = newLength;
        }

        long lowestBits(long v) {
            switch (sort) {
                case BYTES: return (byte) v;
                case SHORTS: return (short) v;
                case INTS: return (int) v;
                case BOOLEANS: return v != 0 ? 1 : 0;
                default: return v;
            }
        }
    }
}
