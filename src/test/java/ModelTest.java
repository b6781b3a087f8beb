/** Long runs of calls, drawn from a fixed row of numbers, told to LooseGrid and to PlainGrid alike. */
public final class ModelTest {
    private static final int RUNS = 1000;
    /** The document promises nothing of an object behind its 512th call. */
    private static final int MOST_CALLS = 512;
    private static final int MOST_OF_A_TURN = 103;
    private static final int MOST_OF_A_SWEEP = 123;
    private static final int MOST_TOLD = 20;
    private static int wrong = 0;

    private long seed;
    private int calls = 0;
    private final LooseGrid grid = new LooseGrid();
    private final PlainGrid model = new PlainGrid();
    private final StringBuilder clause = new StringBuilder();
    /** 0: few small boxes at the rim; 1: many anywhere; 2: many small ones close together, so that squares split. */
    private final int mood;

    private ModelTest(int run) {
        seed = run * 7919L + 17;
        mood = run % 3;
    }

    /** 0 .. n - 1. */
    private int draw(int n) {
        seed = seed * 6364136223846793005L + 1442695040888963407L;
        return (int) ((seed >>> 33) % n);
    }

    private int from(int least, int most) {
        return least + draw(most - least + 1);
    }

    private int odd(int usual) {
        int[] odds = {Integer.MIN_VALUE, Integer.MAX_VALUE, -1, -2, 128, 1000, 127, 0};
        return draw(40) == 0 ? odds[draw(odds.length)] : usual;
    }

    private int number() {
        return odd(from(-1, Math.max(3, model.count(0))));
    }

    private int place() {
        return odd(mood == 2 ? from(0, 40) : mood == 0 ? draw(2) * from(110, 127) : from(0, 127));
    }

    private int side() {
        return odd(mood == 2 ? from(1, 4) : draw(12) == 0 ? from(0, 33) : from(1, 20));
    }

    private int path() {
        if (draw(3) == 0) return odd(from(0, 60));
        int path = 0;
        for (int n = draw(6); n > 0; n--) path = path * 10 + from(1, 4);
        return path;
    }

    /** Each call of the grid goes through here, so that they are counted. */
    private boolean due(String call, long got, long want) {
        calls++;
        if (got == want) return true;
        wrong++;
        if (wrong <= MOST_TOLD) System.out.println(call + " answered " + got + ", due is " + want);
        return false;
    }

    private boolean feedNext() {
        if (clause.length() == 0) {
            int fate = draw(3);
            for (int n = draw(9); n >= 0; n--) {
                clause.append("bmow".charAt(draw(4))).append(draw(2)).append(',').append(from(0, 127)).append(',')
                        .append(from(0, 9)).append(':').append(from(1, 9)).append('x').append(from(1, 32));
                if (draw(3) == 0) {
                    clause.append('>').append("+-".charAt(draw(2))).append(draw(10)).append("+-".charAt(draw(2)))
                            .append(draw(10));
                }
                if (n > 0) clause.append(';');
            }
            if (fate == 0) clause.setCharAt(draw(clause.length()), "bmow0123456789,:;x>+- "
                    .charAt(draw(22)));
            if (fate == 1) clause.setLength(1 + draw(clause.length()));
            // two signs more than there is room for are enough
            clause.setLength(Math.min(clause.length(), 102));
        }
        boolean ok = true;
        while (clause.length() > 0 && ok) {
            int sign = clause.charAt(0);
            clause.deleteCharAt(0);
            ok = due("feed " + sign, grid.feed(sign), model.feed(sign));
        }
        return ok && due("boxes", grid.boxes(), model.boxes());
    }

    private boolean next() {
        int a = number(), b = number(), x = place(), y = place(), w = side(), h = side();
        int what = odd(from(0, 12)), steps = odd(from(0, 13)), tape = odd(from(0, 5)), path = path();
        int i = odd(from(-1, 8)), j = odd(from(-1, 8)), n = odd(from(0, 10));
        String told = " " + a + " " + b + " " + x + " " + y + " " + w + " " + h + " what " + what + " steps " + steps
                + " tape " + tape + " path " + path + " " + i + " " + j + " " + n;
        switch (draw(46)) {
            case 0: case 1: case 2: case 3: case 4: {
                int kind = odd(draw(4)), layer = odd(draw(2));
                return due("box" + told + " " + kind + " " + layer, grid.box(kind, layer, x, y, w, h),
                        model.box(kind, layer, x, y, w, h));
            }
            case 5: case 6: case 7: {
                int vx = from(-10, 10), vy = odd(from(-9, 9));
                return due("speed" + told, grid.speed(a, vx, vy), model.speed(a, vx, vy));
            }
            case 8: return due("move" + told, grid.move(a, x, y), model.move(a, x, y));
            case 9: return draw(3) > 0 || due("drop" + told, grid.drop(a), model.drop(a));
            case 10: return due("room" + told, grid.room(n), model.room(n));
            case 11: return draw(3) > 0 || feedNext();
            case 12: case 13: case 14: return due("of" + told, grid.of(a, what), model.of(a, what));
            case 15: case 16: return due("square" + told, grid.square(path, what % 5), model.square(path, what % 5));
            case 17: return due("cell" + told, grid.cell(n - 1, j, what % 6), model.cell(n - 1, j, what % 6));
            case 18: return due("cell" + told, grid.cell(x / 16, y / 16, i), model.cell(x / 16, y / 16, i));
            case 19: case 20: return due("told" + told, grid.told(what % 7), model.told(what % 7));
            case 21: return due("far" + told, grid.far(a, x, y), model.far(a, x, y));
            case 22: case 23: return due("nearest" + told, grid.nearest(x, y, what % 6, n), model.nearest(x, y, what % 6, n));
            case 24: return due("window" + told, grid.window(x, y, w * n, h), model.window(x, y, w * n, h));
            case 25: return due("pair" + told, grid.pair(i), model.pair(i));
            case 26: return due("pass" + told, grid.pass(n), model.pass(n));
            case 27: case 28: {
                int about = draw(5) * 100 + odd(draw(4) == 0 ? 0 : a);
                return due("on" + told + " " + about, grid.on(steps * 3, about), model.on(steps * 3, about));
            }
            case 29: return due("first" + told, grid.first(a, b), model.first(a, b));
            case 30: {
                int then = draw(2) == 0 ? x : model.on(steps, 100 + a);
                return due("see" + told + " " + then, grid.see(a, steps, then), model.see(a, steps, then));
            }
            case 31: return due("see none", grid.see(-1, i, j), model.see(-1, i, j));
            case 32: return due("speeds" + told, grid.speeds(a, what % 3), model.speeds(a, what % 3));
            case 33: return due("odds" + told, grid.odds(a, n % 3), model.odds(a, n % 3));
            case 34: return due("mean" + told, grid.mean(n % 3), model.mean(n % 3));
            case 35: return due("plan" + told, grid.plan(what % 6, a), model.plan(what % 6, a));
            case 36: return draw(9) > 0 || due("plan none", grid.plan(-1, a), model.plan(-1, a));
            case 37: return due("ends" + told, grid.ends(n % 3), model.ends(n % 3));
            case 38: {
                int then = draw(4) == 0 ? path : model.of(a, 8);
                return due("book" + told + " " + then, grid.book(a, then), model.book(a, then));
            }
            case 39: return due("looked", grid.looked(), model.looked());
            case 40: return nextOnTapes(told, tape, i);
            case 41: return due("taken" + told, grid.taken(a, what % 5), model.taken(a, what % 5));
            case 42: return due("count" + told, grid.count(what % 7), model.count(what % 7));
            case 43: {
                int sort = odd(from(-1, 5)), size = odd(n * 6 + 1);
                return due("tape" + told + " " + sort + " " + size, grid.tape(tape, sort, size),
                        model.tape(tape, sort, size));
            }
            case 44: {
                int other = draw(2) == 0 ? tape : odd(from(0, 5));
                return due("shift" + told + " " + other, grid.shift(tape, i, other, j, n),
                        model.shift(tape, i, other, j, n));
            }
            default: {
                long v = draw(2) == 0 ? from(-300, 300) : seed;
                return due("item" + told + " " + v, grid.item(tape, i, v), model.item(tape, i, v))
                        && due("read" + told, grid.read(tape, i), model.read(tape, i));
            }
        }
    }

    private boolean nextOnTapes(String told, int tape, int i) {
        switch (draw(4)) {
            case 0: return due("image", grid.image(), model.image());
            case 1: return draw(3) > 0 || due("undo", grid.undo(), model.undo());
            case 2: return due("judge" + told, grid.judge(tape, i), model.judge(tape, i));
            default: return tellJudgement();
        }
    }

    /** A row is filled as it is due, all but perhaps one item. */
    private boolean tellJudgement() {
        int size = draw(60), place = draw(4);
        boolean ok = due("tape", grid.tape(0, 0, size), model.tape(0, 0, size));
        for (int b = 0; b < model.count(0) && ok; b++) {
            int x = draw(60) == 0 ? 3 : model.of(b, 2);
            ok = due("item", grid.item(0, place + b, x), model.item(0, place + b, x));
        }
        return ok && due("judge", grid.judge(0, place), model.judge(0, place));
    }

    private boolean run() {
        while (calls <= MOST_CALLS - MOST_OF_A_TURN - MOST_OF_A_SWEEP) {
            if (!next()) return false;
        }
        boolean ok = sweep();
        if (calls > MOST_CALLS) throw new IllegalStateException("a run of " + calls + " calls");
        return ok;
    }

    /** What all has come to: the least DEPTHS of the tree, some BOXES, and what is told of all. */
    private boolean sweep() {
        boolean ok = true;
        for (int n = 0; n < 7; n++) ok &= due("told " + n, grid.told(n), model.told(n));
        for (int path = 0; path <= 44; path++) {
            boolean isPath = path < 5 || path / 10 > 0 && path % 10 > 0 && path % 10 < 5;
            for (int what = 0; what < 4 && isPath; what++) {
                ok &= due("square " + path + " " + what, grid.square(path, what), model.square(path, what));
            }
        }
        for (int n = 0; n < 8; n++) {
            int b = draw(Math.max(8, model.count(0)));
            for (int what = 8; what < 12; what++) ok &= due("of " + b + " " + what, grid.of(b, what), model.of(b, what));
        }
        return ok;
    }

    public static void main(String[] args) {
        for (int run = 0; run < RUNS; run++) {
            if (!new ModelTest(run).run()) System.out.println("run " + run + " went apart");
        }
        System.out.println(wrong == 0 ? "all answers are the model's" : wrong + " answers are not the model's");
        if (wrong != 0) System.exit(1);
    }
}
