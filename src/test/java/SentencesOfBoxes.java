/** The sentences of the promises 1 to 9: a new object, boxes. */
final class SentencesOfBoxes extends Sentences {
    private static final int MOST = Integer.MAX_VALUE, LEAST = Integer.MIN_VALUE;

    static void all() {
        newObject();
        box();
        speed();
        move();
        drop();
        room();
        feed();
        boxesOfText();
        of();
    }

    private static void newObject() {
        under("Promise 1");
        test("No BOXES.", "none came, none is there, none is found", g -> {
            due("came", g.count(0), 0);
            due("there", g.count(1), 0);
            due("x of 0", g.of(0, 2), -1);
            due("nearest", g.nearest(0, 0, 0, 0), -5);
            due("window", g.window(0, 0, 128, 128), 0);
            due("the first", g.box(0, 0, 0, 0, 1, 1), 0);
        });
        test("No BOXES.", "and nothing else", g -> {
            for (int what = 2; what < 6; what++) due("count " + what, g.count(what), 0);
            int[] told = {0, 1, 0, 0, 0, 3};
            for (int what = 0; what < 6; what++) due("told " + what, g.told(what), told[what]);
            due("looked", g.looked(), -5);
            due("ends", g.ends(0), 0);
            due("ends", g.ends(1), 1);
            due("image", g.undo(), -3);
            due("boxes", g.boxes(), -10);
            for (int tape = 0; tape < 6; tape++) due("TAPE " + tape, g.read(tape, 0), Long.MIN_VALUE);
        });
        test("No BOXES.", "two objects have nothing of one another", g -> {
            scene(g);
            Grid other = fresh();
            due("came", other.count(0), 0);
            due("text", other.count(5), 0);
            due("image", other.undo(), -3);
            due("TAPE", other.item(0, 0, 1), -11);
            other.box(0, 0, 0, 0, 1, 1);
            due("x of the first's", g.of(0, 2), 10);
        });
    }

    private static void box() {
        under("Promise 2");
        test("A BOX, VX and VY 0: its number.", "of each KIND and LAYER", g -> {
            for (int n = 0; n < 8; n++) {
                due("box", g.box(n % 4, n / 4, 10 + n, 20 + n, 3 + n, 5 + n), n);
                dueOf(g, n, 0, n % 4, n / 4, 10 + n, 20 + n, 3 + n, 5 + n, 50, 50);
            }
        });
        test("A BOX, VX and VY 0: its number.", "also behind an image that had another there", g -> {
            g.image();
            g.box(1, 0, 0, 0, 1, 1);
            g.speed(0, 5, 6);
            g.drop(0);
            g.undo();
            due("box", g.box(1, 0, 0, 0, 1, 1), 0);
            dueOf(g, 0, 6, 50, 50);
        });
        for (int wrong : new int[] {-1, 4, MOST, LEAST}) {
            keeps("NONE: kind, layer;", "kind " + wrong, g -> g.box(wrong, 0, 0, 0, 1, 1), -1);
        }
        for (int wrong : new int[] {-1, 2, MOST, LEAST}) {
            keeps("NONE: kind, layer;", "layer " + wrong, g -> g.box(0, wrong, 0, 0, 1, 1), -1);
        }
        for (int wrong : new int[] {0, 33, -1, MOST, LEAST}) {
            keeps("BAD: width, height;", "width " + wrong, g -> g.box(0, 0, 0, 0, wrong, 1), -2);
            keeps("BAD: width, height;", "height " + wrong, g -> g.box(0, 0, 0, 0, 1, wrong), -2);
        }
        for (int wrong : new int[] {-1, 126, 128, MOST, LEAST, MOST - 2}) {
            keeps("STATE: not all of it is on THE PLANE;", "x " + wrong, g -> g.box(0, 0, wrong, 0, 3, 1), -3);
            keeps("STATE: not all of it is on THE PLANE;", "y " + wrong, g -> g.box(0, 0, 0, wrong, 1, 3), -3);
        }
        test("STATE: not all of it is on THE PLANE;", "all of it just is", g -> {
            due("x", g.box(0, 0, 125, 0, 3, 1), 0);
            due("y", g.box(0, 0, 0, 125, 1, 3), 1);
            due("both", g.box(0, 0, 96, 96, 32, 32), 2);
        });
        keeps("FULL: 40 came.", "one more", g -> {
            scene(g);
            dots(g, 35, 127, 0);
        }, g -> g.box(0, 0, 0, 0, 1, 1), -4);
        test("FULL: 40 came.", "also if some are GONE", g -> {
            dots(g, 39, 0, 0);
            g.drop(0);
            g.drop(38);
            due("the last", g.box(0, 0, 0, 0, 1, 1), 39);
            due("one more", g.box(0, 0, 0, 0, 1, 1), -4);
            g.drop(39);
            due("one more then", g.box(0, 0, 0, 0, 1, 1), -4);
        });
    }

    private static void speed() {
        under("Promise 3");
        test("VX, VY of a BOX become others:", "of each KIND that moves, and of none beside it", g -> {
            for (int kind = 1; kind < 4; kind++) g.box(kind, 0, 0, 0, 1, 1);
            for (int n = 0; n < 3; n++) {
                due("speed", g.speed(n, n - 9, 9 - n), 5050);
                dueOf(g, n, 6, 41 + n, 59 - n);
            }
            dueOf(g, 0, 6, 41, 59);
        });
        test("100 times (VX that was, and 50), and VY that was, and 50.", "the least and the greatest", g -> {
            g.box(1, 0, 0, 0, 1, 1);
            due("0, 0", g.speed(0, -9, -9), 5050);
            due("-9, -9", g.speed(0, 9, 9), 4141);
            due("9, 9", g.speed(0, 0, -1), 5959);
            due("0, -1", g.speed(0, 0, 0), 5049);
        });
        test("100 times (VX that was, and 50), and VY that was, and 50.", "those that a STEP turned about", g -> {
            g.box(2, 0, 0, 0, 1, 1);
            g.speed(0, -2, 3);
            g.pass(1);
            due("speed", g.speed(0, 0, 0), 5253);
        });
        for (int none : new int[] {4, 5, 40, -1, MOST, LEAST}) {
            keeps("-10001: NONE;", "box " + none, g -> g.speed(none, 1, 1), -10001);
        }
        for (int wrong : new int[] {-10, 10, MOST, LEAST}) {
            keeps("-10002: BAD;", "vx " + wrong, g -> g.speed(1, wrong, 0), -10002);
            keeps("-10002: BAD;", "vy " + wrong, g -> g.speed(1, 0, wrong), -10002);
        }
        keeps("-10003: STATE: it is of KIND 0.", "others", g -> g.speed(0, 1, 1), -10003);
        keeps("-10003: STATE: it is of KIND 0.", "also 0 and 0", g -> g.speed(0, 0, 0), -10003);
    }

    private static void move() {
        under("Promise 4");
        String moved = "A BOX is at another place: the square of how far x came, and that of y, together.";
        test(moved, "as far as can be, and not at all", g -> {
            g.box(0, 0, 0, 0, 1, 1);
            due("to the far corner", g.move(0, 127, 127), 32258);
            dueOf(g, 0, 2, 127, 127);
            due("there already", g.move(0, 127, 127), 0);
            due("x", g.move(0, 124, 127), 9);
            due("y", g.move(0, 124, 123), 16);
            due("both", g.move(0, 0, 0), 124 * 124 + 123 * 123);
        });
        test(moved, "up to the rim, with VX and VY as they were", g -> {
            g.box(2, 1, 0, 0, 32, 31);
            g.speed(0, 3, 4);
            due("both", g.move(0, 96, 97), 96 * 96 + 97 * 97);
            dueOf(g, 0, 0, 2, 1, 96, 97, 32, 31, 53, 54);
        });
        for (int none : new int[] {4, 5, 40, -1, MOST, LEAST}) keeps("NONE;", "box " + none, g -> g.move(none, 0, 0), -1);
        for (int wrong : new int[] {-1, 121, 128, MOST, LEAST, MOST - 7}) {
            keeps("STATE: not all of it would be on THE PLANE.", "x " + wrong, g -> g.move(0, wrong, 0), -3);
            keeps("STATE: not all of it would be on THE PLANE.", "y " + wrong, g -> g.move(0, 0, wrong), -3);
        }
        test("STATE: not all of it would be on THE PLANE.", "all of it just would", g -> {
            scene(g);
            due("both", g.move(0, 120, 120), 2 * 110 * 110);
        });
        test("STATE: not all of it would be on THE PLANE.", "of unlike WIDTH and HEIGHT", g -> {
            place(g, 0, 0, 0, 0, 20, 3);
            due("x beyond", g.move(0, 109, 0), -3);
            due("y beyond", g.move(0, 0, 126), -3);
            due("up to both rims", g.move(0, 108, 125), 108 * 108 + 125 * 125);
        });
    }

    private static void drop() {
        under("Promise 5");
        test("A BOX is GONE: how many are left.", "down to none", g -> {
            dots(g, 40, 0, 0);
            for (int n = 0; n < 40; n++) {
                due("drop " + n, g.drop(39 - n), 39 - n);
                due("x of it", g.of(39 - n, 2), -1);
            }
            due("came", g.count(0), 40);
        });
        test("A BOX is GONE: how many are left.", "nothing of it is left", g -> {
            place(g, 0, 0, 0, 0, 4, 4, 0, 1, 0, 0, 4, 4);
            due("drop", g.drop(0), 1);
            due("PAIRS", g.told(3), 0);
            due("MEET", g.of(1, 11), 0);
            due("window", g.window(0, 0, 1, 1), 2);
            due("nearest", g.nearest(0, 0, 0, 0), 1);
            due("cell", g.cell(0, 0, 1), 1);
            due("whole in THE PLANE", g.square(0, 1), 1);
            due("the least number", g.square(0, 3), 1);
        });
        for (int none : new int[] {4, 5, 40, -1, MOST, LEAST}) keeps("NONE.", "box " + none, g -> g.drop(none), -1);
    }

    private static void room() {
        under("Promise 6");
        test("ROOM becomes n: what it was.", "1 .. 9, and the same again", g -> {
            int was = 3;
            for (int n = 1; n <= 9; n++) {
                due("room " + n, g.room(n), was);
                due("again", g.room(n), n);
                due("told", g.told(5), n);
                was = n;
            }
        });
        test("ROOM becomes n: what it was.", "SQUARES are split and joined by it", g -> {
            place(g, 0, 0, 0, 0, 1, 1, 0, 0, 127, 127, 1, 1);
            due("joined", g.told(1), 1);
            g.room(1);
            due("split", g.told(1), 5);
            g.room(2);
            due("joined again", g.told(1), 1);
        });
        for (int wrong : new int[] {0, 10, -1, MOST, LEAST}) keeps("BAD.", "n " + wrong, g -> g.room(wrong), -2);
    }

    private static void feed() {
        under("Promise 7");
        test("A sign (0 .. 127) comes behind THE TEXT's: how many it has.", "the first, the last, 100 of them", g -> {
            due("0", g.feed(0), 1);
            due("127", g.feed(127), 2);
            for (int n = 3; n <= 100; n++) due("sign " + n, g.feed(n), n);
            due("count", g.count(5), 100);
        });
        test("A sign (0 .. 127) comes behind THE TEXT's: how many it has.", "from 1 on when THE TEXT was read", g -> {
            due("boxes", boxes(g, "b0,0,0:1x1"), 1);
            due("sign", g.feed('b'), 1);
            due("a FAULT", g.boxes(), -11);
            due("sign", g.feed('b'), 1);
        });
        for (int wrong : new int[] {-1, 128, MOST, LEAST}) keeps("BAD;", "sign " + wrong, g -> g.feed(wrong), -2);
        keeps("FULL.", "100 of them", g -> {
            scene(g);
            for (int n = 9; n < 100; n++) g.feed('7');
        }, g -> g.feed('7'), -4);
        test("FULL.", "99 of them, and then again", g -> {
            for (int n = 0; n < 99; n++) g.feed('b');
            due("the last", g.feed('b'), 100);
            due("one more", g.feed('b'), -4);
            due("boxes", g.boxes(), -11);
            due("empty", g.feed('b'), 1);
        });
    }

    private static void boxesOfText() {
        under("Promise 8");
        String read = "THE TEXT, which is empty then (by a FAULT, too), are BOXES: how many came;";
        test(read, "1 and 8; empty then", g -> {
            due("1", boxes(g, "m1,127,0:1x32>-9+9"), 1);
            due("signs", g.count(5), 0);
            due("8", boxes(g, "b0,0,0:1x1;b0,0,0:1x1;b0,0,0:1x1;b0,0,0:1x1;b0,0,0:1x1;b0,0,0:1x1;b0,0,0:1x1;b0,0,0:1x1"), 8);
            due("signs then", g.count(5), 0);
            due("came", g.count(0), 9);
            dueOf(g, 0, 0, 1, 1, 127, 0, 1, 32, 41, 59);
        });
        test(read, "empty by a FAULT, too, and nothing came", g -> {
            due("a FAULT in the second", boxes(g, "b0,0,0:1x1;?"), -21);
            due("signs", g.count(5), 0);
            due("came", g.count(0), 0);
            due("the next is read from its own first sign", boxes(g, "b0,0,0:1x1"), 1);
        });
        test(read, "those of this text alone, not of the one ahead", g -> {
            due("3", boxes(g, "b0,0,0:1x1;b0,0,0:1x1;b0,0,0:1x1"), 3);
            due("1", boxes(g, "b0,0,0:1x1"), 1);
            due("a FAULT in the third", boxes(g, "b0,0,0:1x1;b0,0,0:1x1;b"), -33);
            due("1 again", boxes(g, "m0,0,0:1x1"), 1);
            due("came", g.count(0), 5);
        });
        test(read, "empty if all are refused", g -> {
            due("off THE PLANE", boxes(g, "b0,127,0:2x1;b0,0,127:1x2"), 0);
            due("signs", g.count(5), 0);
            dots(g, 40, 0, 0);
            due("40 came", boxes(g, "b0,0,0:1x1"), 0);
            due("signs then", g.count(5), 0);
        });
        test("-10 less the FAULT.", "the least", g -> {
            text("", -10);
            text("?", -10);
        });
        test("-10 less the FAULT.", "the greatest: 100 signs that end too early", g -> {
            String zeros = "b0,000,000:01x01;";
            text(zeros + zeros + zeros + zeros + zeros + "b0,00,0:1x1>+1-", -110);
        });
        test("-10 less the FAULT.", "all but THE TEXT is as it was", g -> {
            scene(g);
            due("boxes", g.boxes(), -19);
            Grid other = fresh();
            scene(other);
            for (int what = 0; what < 5; what++) due("count " + what, g.count(what), other.count(what));
            for (int n = 0; n < 5; n++) {
                for (int what = 0; what < 12; what++) due("of " + n + " " + what, g.of(n, what), other.of(n, what));
            }
        });
    }

    private static void of() {
        under("Promise 9");
        String of = "Of a BOX what 0 KIND, 1 LAYER, 2 x, 3 y, 4 WIDTH, 5 HEIGHT, 6 VX and 50, 7 VY and 50, 8 PATH of its SQUARE, "
                + "9 DEPTH of that, 10 how many CELLS it TOUCHES, 11 MEET.";
        test(of, "the least of each", g -> {
            g.box(0, 0, 0, 0, 1, 1);
            dueOf(g, 0, 0, 0, 0, 0, 0, 1, 1, 50, 50, 0, 0, 1, 0);
        });
        test(of, "the greatest of each", g -> {
            dots(g, 3, 127, 127);
            place(g, 3, 1, 127, 127, 1, 1, 3, 1, 95, 95, 32, 32);
            g.speed(3, 9, 9);
            dueOf(g, 3, 0, 3, 1, 127, 127, 1, 1, 59, 59, 44444, 5, 1, 3);
            dueOf(g, 4, 0, 3, 1, 95, 95, 32, 32, 50, 50, 4, 1, 9, 0);
            g.speed(3, -9, -9);
            dueOf(g, 3, 6, 41, 41);
        });
        int[][] due = {
            {0, 0, 10, 10, 8, 8, 50, 50, 1, 1, 4, 1},
            {1, 1, 16, 12, 4, 4, 51, 51, 1, 1, 1, 1},
            {2, 1, 54, 68, 8, 8, 47, 54, 3, 1, 1, 0},
            {3, 0, 9, 110, 20, 3, 59, 41, 3, 1, 4, 0}};
        for (int n = 0; n < 4; n++) {
            int box = n;
            for (int w = 0; w < 12; w++) {
                int what = w;
                keeps(of, "what " + what + " of BOX " + box, g -> g.of(box, what), due[box][what]);
            }
        }
        for (int none : new int[] {4, 5, 40, -1, MOST, LEAST}) keeps("NONE.", "box " + none, g -> g.of(none, 0), -1);
        for (int none : new int[] {-1, 12, MOST, LEAST}) keeps("NONE.", "what " + none, g -> g.of(0, none), -1);
    }
}
