/** The sentences of the promises 10 to 19: squares, cells, what is where, steps. */
final class SentencesOfSquares extends Sentences {
    private static final int MOST = Integer.MAX_VALUE, LEAST = Integer.MIN_VALUE;
    private static final long NO = Long.MIN_VALUE;

    static void all() {
        square();
        cell();
        told();
        far();
        nearest();
        window();
        pair();
        pass();
        on();
        first();
    }

    private static void square() {
        under("Promise 10");
        String square = "Of the SQUARE of a PATH what 0 how many BOXES are in it, 1 how many lie whole in it, 2 whether it is SPLIT, "
                + "3 the least number of those in it (-5).";
        test(square, "THE PLANE without BOXES, with some, SPLIT", g -> {
            dueSquare(g, 0, 0, 0, 0, -5);
            place(g, 0, 0, 63, 63, 2, 2, 0, 0, 127, 127, 1, 1, 0, 0, 0, 127, 1, 1);
            dueSquare(g, 0, 3, 3, 0, 0);
            g.box(0, 0, 0, 0, 1, 1);
            dueSquare(g, 0, 1, 4, 1, 0);
            dueSquare(g, 1, 1, 1, 0, 3);
            dueSquare(g, 2, 0, 0, 0, -5);
            dueSquare(g, 3, 1, 1, 0, 2);
            dueSquare(g, 4, 1, 1, 0, 1);
        });
        test(square, "the least number, not the first GONE; none in one that is SPLIT", g -> {
            dots(g, 5, 0, 0);
            dueSquare(g, 11111, 5, 5, 0, 0);
            dueSquare(g, 1111, 0, 5, 1, -5);
            g.drop(0);
            dueSquare(g, 11111, 4, 4, 0, 1);
            g.drop(2);
            dueSquare(g, 0, 3, 3, 0, 1);
            due("joined", g.square(1, 0), -1);
        });
        keeps(square, "on the scene", g -> g.square(3, 0), 2);
        keeps(square, "SPLIT on the scene", g -> g.square(0, 2), 1);
        String none = "NONE: there is no such SQUARE, what.";
        for (int path : new int[] {5, 6, 9, 10, 40, 11, 44, -1, -2, 101, MOST, LEAST, 1111111111}) {
            keeps(none, "path " + path, g -> g.square(path, 0), -1);
        }
        for (int what : new int[] {-1, 4, MOST, LEAST}) keeps(none, "what " + what, g -> g.square(0, what), -1);
        test(none, "no DEPTH 6, no digits 0 and 5 .. 9, none under one that isn't SPLIT", g -> {
            dots(g, 4, 0, 0);
            due("DEPTH 5", g.square(11111, 0), 4);
            due("DEPTH 6", g.square(111111, 0), -1);
            due("digit 0 at the end", g.square(11110, 0), -1);
            due("digit 0 at the beginning, which isn't seen", g.square(1, 0), 0);
            due("digit 0 between", g.square(11011, 0), -1);
            for (int digit = 5; digit < 10; digit++) {
                due("the last digit " + digit, g.square(11110 + digit, 0), -1);
                due("the first digit " + digit, g.square(10000 * digit + 1111, 0), -1);
            }
            due("under one that isn't SPLIT", g.square(21, 0), -1);
            due("beside it", g.square(2, 0), 0);
            due("below 0", g.square(-11111, 0), -1);
        });
    }

    private static void dueSquare(Grid g, int path, int in, int whole, int split, int least) {
        int[] want = {in, whole, split, least};
        for (int what = 0; what < 4; what++) due("square(" + path + ", " + what + ")", g.square(path, what), want[what]);
    }

    private static void cell() {
        under("Promise 11");
        String cell = "Of a CELL (0 .. 7 each) how many BOXES TOUCH it (what 0), the number k (what 1 and k) of these, "
                + "by numbers (-5).";
        test(cell, "none, one, 40", g -> {
            due("none", g.cell(0, 0, 0), 0);
            due("its first", g.cell(0, 0, 1), -5);
            dots(g, 40, 15, 15);
            due("40", g.cell(0, 0, 0), 40);
            for (int k = 0; k < 40; k++) due("number " + k, g.cell(0, 0, 1 + k), k);
            due("number 40", g.cell(0, 0, 41), -5);
            due("the greatest what", g.cell(0, 0, MOST), -5);
        });
        test(cell, "the four at the corners", g -> {
            place(g, 0, 0, 0, 0, 16, 16, 0, 0, 112, 0, 16, 16, 0, 0, 0, 112, 16, 16, 0, 0, 112, 112, 16, 16);
            for (int n = 0; n < 4; n++) {
                int x = 7 * (n % 2), y = 7 * (n / 2);
                due("how many at " + x + ", " + y, g.cell(x, y, 0), 1);
                due("which at " + x + ", " + y, g.cell(x, y, 1), n);
                due("no second", g.cell(x, y, 2), -5);
                due("beside it", g.cell(x == 0 ? 1 : 6, y, 0), 0);
            }
        });
        test(cell, "by numbers, without those GONE", g -> {
            place(g, 0, 0, 17, 1, 1, 1, 0, 0, 1, 1, 17, 1, 0, 0, 30, 1, 1, 1);
            int[] due = {3, 0, 1, 2, -5};
            for (int what = 0; what < 5; what++) due("what " + what, g.cell(1, 0, what), due[what]);
            g.drop(1);
            int[] then = {2, 0, 2, -5};
            for (int what = 0; what < 4; what++) due("then what " + what, g.cell(1, 0, what), then[what]);
        });
        keeps(cell, "on the scene", g -> g.cell(1, 0, 2), 1);
        for (int wrong : new int[] {-1, 8, MOST, LEAST}) {
            keeps("NONE.", "x " + wrong, g -> g.cell(wrong, 0, 0), -1);
            keeps("NONE.", "y " + wrong, g -> g.cell(0, wrong, 0), -1);
        }
        for (int wrong : new int[] {-1, LEAST}) keeps("NONE.", "what " + wrong, g -> g.cell(0, 0, wrong), -1);
    }

    private static void told() {
        under("Promise 12");
        String told = "What 0 TIME, 1 how many SQUARES, 2 the greatest DEPTH, 3 how many PAIRS, 4 how many CELLS are TOUCHED, "
                + "5 ROOM.";
        test(told, "without BOXES", g -> dueTold(g, 0, 1, 0, 0, 0, 3));
        test(told, "with many: 20 by 20 PAIRS, each DEPTH, one CELL", g -> {
            for (int n = 0; n < 40; n++) g.box(0, n % 2, 127, 127, 1, 1);
            g.room(9);
            dueTold(g, 0, 21, 5, 400, 1, 9);
        });
        test(told, "all CELLS", g -> {
            for (int n = 0; n < 32; n++) g.box(0, 0, 32 * (n % 4) + 15, 16 * (n / 4), 2, 1);
            due("CELLS", g.told(4), 64);
            g.drop(0);
            due("CELLS then", g.told(4), 62);
            g.box(0, 0, 15, 0, 1, 1);
            due("and one", g.told(4), 63);
        });
        test(told, "SQUARES under two that are SPLIT", g -> {
            dots(g, 2, 0, 0);
            dots(g, 2, 127, 127);
            g.room(1);
            dueTold(g, 0, 37, 5, 0, 2, 1);
            g.drop(0);
            dueTold(g, 0, 21, 5, 0, 2, 1);
            g.drop(2);
            dueTold(g, 0, 5, 1, 0, 2, 1);
            g.drop(3);
            dueTold(g, 0, 1, 0, 0, 1, 1);
        });
        int[] scene = {2, 5, 1, 1, 9, 2};
        for (int w = 0; w < 6; w++) {
            int what = w;
            keeps(told, "what " + what + " of the scene", g -> g.told(what), scene[what]);
        }
        for (int wrong : new int[] {-1, 6, MOST, LEAST}) keeps("NONE.", "what " + wrong, g -> g.told(wrong), -1);
    }

    private static void dueTold(Grid g, int... want) {
        for (int what = 0; what < want.length; what++) due("told(" + what + ")", g.told(what), want[what]);
    }

    private static void far() {
        under("Promise 13");
        keeps("FAR.", "0: within", g -> g.far(0, 17, 17), 0);
        keeps("FAR.", "1: beside it", g -> g.far(0, 18, 17), 1);
        keeps("FAR.", "from the first place", g -> g.far(0, 0, 0), 200);
        keeps("FAR.", "from the last place", g -> g.far(0, 127, 127), 2 * 110 * 110);
        for (int none : new int[] {4, 5, 40, -1, MOST, LEAST}) {
            keeps("NONE: box, x, y.", "box " + none, g -> g.far(none, 0, 0), -1);
        }
        for (int wrong : new int[] {-1, 128, MOST, LEAST}) {
            keeps("NONE: box, x, y.", "x " + wrong, g -> g.far(0, wrong, 0), -1);
            keeps("NONE: box, x, y.", "y " + wrong, g -> g.far(0, 0, wrong), -1);
        }
    }

    private static void nearest() {
        under("Promise 14");
        String nearest = "NEAREST number k (0 the first; -5: not so many).";
        int[][] due = {{0, 1, 2, 3, -5}, {0, 3, -5}, {1, 2, -5}, {1, 2, 3, -5}, {0, 1, 2, 3, -5}};
        for (int t = 0; t < 5; t++) {
            int test = t;
            for (int n = 0; n < due[test].length; n++) {
                int k = n;
                keeps(nearest, "number " + k + " by TEST " + test, g -> g.nearest(0, 0, test, k), due[test][k]);
            }
        }
        keeps(nearest, "as great a number as can be", g -> g.nearest(0, 0, 0, MOST), -5);
        test(nearest, "of each corner", g -> {
            place(g, 0, 0, 0, 0, 1, 1, 0, 0, 127, 0, 1, 1, 0, 0, 0, 127, 1, 1, 0, 0, 127, 127, 1, 1);
            for (int n = 0; n < 4; n++) {
                int x = 127 * (n % 2), y = 127 * (n / 2);
                due("the first of " + x + ", " + y, g.nearest(x, y, 0, 0), n);
                due("the last of " + x + ", " + y, g.nearest(x, y, 0, 3), 3 - n);
            }
        });
        test(nearest, "of none", g -> {
            for (int test = 0; test < 5; test++) due("TEST " + test, g.nearest(127, 127, test, 0), -5);
            g.box(0, 0, 0, 0, 1, 15);
            for (int test = 2; test < 5; test++) due("TEST " + test, g.nearest(127, 127, test, 0), -5);
        });
        String none = "NONE: x, y, test, k is below 0.";
        for (int wrong : new int[] {-1, 128, MOST, LEAST}) {
            keeps(none, "x " + wrong, g -> g.nearest(wrong, 0, 0, 0), -1);
            keeps(none, "y " + wrong, g -> g.nearest(0, wrong, 0, 0), -1);
        }
        for (int wrong : new int[] {-1, 5, MOST, LEAST}) keeps(none, "test " + wrong, g -> g.nearest(0, 0, wrong, 0), -1);
        for (int wrong : new int[] {-1, LEAST}) keeps(none, "k " + wrong, g -> g.nearest(0, 0, 0, wrong), -1);
        keeps(none, "k below 0 where there are none", g -> {
        }, g -> g.nearest(0, 0, 0, -1), -1);
    }

    private static void window() {
        under("Promise 15");
        keeps("WINDOW (bits).", "all", g -> g.window(0, 0, 128, 128), 15);
        keeps("WINDOW (bits).", "one place", g -> g.window(16, 12, 1, 1), 3);
        keeps("WINDOW (bits).", "none", g -> g.window(127, 127, 1, 1), 0);
        keeps("WINDOW (bits).", "where one is GONE", g -> g.window(3, 3, 1, 1), 0);
        String no = "NO: it isn't on THE PLANE, or width or height is below 1.";
        int[][] wrong = {{-1, 0, 1, 1}, {0, -1, 1, 1}, {128, 0, 1, 1}, {0, 128, 1, 1}, {0, 0, 129, 1}, {0, 0, 1, 129},
            {127, 0, 2, 1}, {0, 127, 1, 2}, {1, 0, 128, 128}, {0, 1, 128, 128}, {0, 0, 0, 1}, {0, 0, 1, 0}, {0, 0, -1, 1},
            {0, 0, 1, -1}, {9, 9, MOST, 1}, {9, 9, 1, MOST}, {0, 0, LEAST, 1}, {0, 0, 1, LEAST}, {MOST, 0, MOST, 1},
            {0, MOST, 1, MOST}, {LEAST, 0, 1, 1}, {0, LEAST, 1, 1}, {-1, 0, 2, 1}, {-128, 0, 128, 1}};
        for (int[] row : wrong) {
            keeps(no, row[0] + ", " + row[1] + ", " + row[2] + ", " + row[3],
                    g -> g.window(row[0], row[1], row[2], row[3]), NO);
        }
        test(no, "on THE PLANE up to its last place", g -> {
            dots(g, 1, 127, 127);
            due("the last place", g.window(127, 127, 1, 1), 1);
            due("as wide as can be", g.window(0, 127, 128, 1), 1);
            due("as high as can be", g.window(127, 0, 1, 128), 1);
        });
    }

    private static void pair() {
        under("Promise 16");
        String pair = "PAIR k (0 the first): 100 times the first, and the second (-5).";
        keeps(pair, "the first", g -> g.pair(0), 1);
        keeps(pair, "no second", g -> g.pair(1), -5);
        keeps(pair, "as great a number as can be", g -> g.pair(MOST), -5);
        test(pair, "the greatest numbers, and behind the last of many", g -> {
            for (int n = 0; n < 40; n++) g.box(0, n / 20, 0, 0, 1, 1);
            due("the first", g.pair(0), 20);
            due("the last", g.pair(399), 1939);
            due("behind it", g.pair(400), -5);
            due("the 20th", g.pair(19), 39);
            due("the 21st", g.pair(20), 120);
            Grid other = fresh();
            for (int n = 0; n < 40; n++) other.box(0, n < 39 ? 1 : 0, 0, 0, 1, 1);
            due("39 with 38", other.pair(38), 3938);
            due("no more", other.pair(39), -5);
        });
        test(pair, "none", g -> {
            due("without BOXES", g.pair(0), -5);
            dots(g, 2, 0, 0);
            due("of one LAYER", g.pair(0), -5);
        });
        for (int wrong : new int[] {-1, LEAST}) keeps("NONE: k is below 0.", "k " + wrong, g -> g.pair(wrong), -1);
        keeps("NONE: k is below 0.", "where there are none", g -> {
        }, g -> g.pair(-1), -1);
    }

    private static void pass() {
        under("Promise 17");
        String pass = "n STEPS (0 .. 40): TIME.";
        keeps(pass, "none", g -> g.pass(0), 2);
        test(pass, "40 of them", g -> {
            place(g, 1, 0, 0, 0, 1, 1, 2, 0, 0, 0, 1, 1, 3, 0, 0, 0, 1, 1);
            for (int n = 0; n < 3; n++) g.speed(n, 9, -1);
            due("TIME", g.pass(40), 40);
            dueOf(g, 0, 2, 127, 0, 1, 1, 59, 49);
            dueOf(g, 1, 2, 90, 39, 1, 1, 59, 51);
            dueOf(g, 2, 2, 104, 88, 1, 1, 59, 49);
            due("one more", g.pass(1), 41);
        });
        for (int wrong : new int[] {-1, 41, MOST, LEAST}) keeps("BAD;", "n " + wrong, g -> g.pass(wrong), -2);
        test("STATE: TIME would be above 9999.", "9999 is not above it", g -> {
            g.box(1, 0, 0, 0, 1, 1);
            for (int n = 0; n < 249; n++) g.pass(40);
            due("TIME", g.pass(38), 9998);
            g.speed(0, 1, 0);
            due("10000", g.pass(2), -3);
            due("10038", g.pass(40), -3);
            due("as it was", g.told(0), 9998);
            dueOf(g, 0, 2, 0);
            due("9999", g.pass(1), 9999);
            dueOf(g, 0, 2, 1);
            due("one more", g.pass(1), -3);
            due("none", g.pass(0), 9999);
            dueOf(g, 0, 2, 1);
        });
        test("STATE: TIME would be above 9999.", "40 STEPS up to it", g -> {
            for (int n = 0; n < 248; n++) g.pass(40);
            due("TIME", g.pass(39), 9959);
            due("9999", g.pass(40), 9999);
        });
    }

    private static void on() {
        under("Promise 18");
        String on = "ON n STEPS: what 0 how many PAIRS, 100 and b x of BOX b, 200 and b y, 300 and b PATH.";
        int[][] now = {{0, 1}, {100, 10}, {200, 10}, {300, 1}, {101, 16}, {201, 12}, {301, 1}, {103, 9}, {203, 110}, {303, 3}};
        for (int[] row : now) keeps(on, "what " + row[0] + " by no STEP", g -> g.on(0, row[0]), row[1]);
        int[][] then = {{0, 0}, {100, 10}, {101, 56}, {201, 52}, {301, 14}, {102, 63}, {202, 16}, {302, 0}, {103, 42}, {203, 2}};
        for (int[] row : then) keeps(on, "what " + row[0] + " by 40 STEPS", g -> g.on(40, row[0]), row[1]);
        test(on, "of the last BOX", g -> {
            for (int n = 0; n < 40; n++) g.box(1, 0, n, 2 * n, 1, 1);
            g.speed(39, 1, 2);
            due("x", g.on(2, 139), 41);
            due("y", g.on(2, 239), 82);
            due("PATH", g.on(0, 339), 32134);
        });
        test(on, "also where TIME would be above 9999", g -> {
            for (int n = 0; n < 249; n++) g.pass(40);
            g.pass(39);
            g.box(1, 0, 0, 0, 1, 1);
            g.speed(0, 2, 0);
            due("x", g.on(40, 100), 80);
            due("PAIRS", g.on(40, 0), 0);
            due("TIME", g.told(0), 9999);
        });
        for (int wrong : new int[] {-1, 1, 4, 99, 104, 105, 139, 140, 199, 204, 299, 304, 399, 400, 1000, 1100, MOST, LEAST, -100,
            -101, -300}) {
            keeps("NONE: what;", "what " + wrong, g -> g.on(1, wrong), -1);
        }
        for (int wrong : new int[] {-1, 41, MOST, LEAST}) {
            keeps("BAD: n.", "n " + wrong + ", PAIRS", g -> g.on(wrong, 0), -2);
            keeps("BAD: n.", "n " + wrong + ", x", g -> g.on(wrong, 100), -2);
        }
    }

    private static void first() {
        under("Promise 19");
        keeps("FIRST STEP (-5).", "now", g -> g.first(0, 1), 0);
        keeps("FIRST STEP (-5).", "never", g -> g.first(2, 0), -5);
        test("FIRST STEP (-5).", "both move, turn about, come round", g -> {
            place(g, 2, 0, 8, 0, 2, 2, 3, 1, 100, 1, 2, 2);
            g.speed(0, -4, 0);
            g.speed(1, 9, 0);
            // 8, 4, 0, 0, 4, 8 and 100, 109, 118, 0, ..
            due("at the rim", g.first(0, 1), 3);
            g.move(1, 100, 2);
            due("just beside it", g.first(0, 1), -5);
        });
        for (int none : new int[] {4, 5, 40, -1, MOST, LEAST}) {
            keeps("NONE: no such BOXES;", "the first " + none, g -> g.first(none, 1), -1);
            keeps("NONE: no such BOXES;", "the second " + none, g -> g.first(1, none), -1);
        }
        keeps("STATE: they are of one LAYER.", "LAYER 0", g -> g.first(0, 3), -3);
        keeps("STATE: they are of one LAYER.", "LAYER 1", g -> g.first(2, 1), -3);
        keeps("STATE: they are of one LAYER.", "the same", g -> g.first(1, 1), -3);
    }
}
