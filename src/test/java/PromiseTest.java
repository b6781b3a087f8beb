/** For each promise of the document: ordinary calls, the edges that it names, and wrong calls. */
public final class PromiseTest {
    private static int wrong = 0;
    private static int checks = 0;
    private static String promise = "";

    private static void due(String call, long got, long want) {
        checks++;
        if (got != want) {
            wrong++;
            System.out.println(promise + ": " + call + " answered " + got + ", due is " + want);
        }
    }

    private static void feed(LooseGrid g, String text) {
        for (int n = 0; n < text.length(); n++) {
            due("feed " + text.charAt(n), g.feed(text.charAt(n)), n + 1);
        }
    }

    private static void text(String text, int want) {
        LooseGrid g = new LooseGrid();
        feed(g, text);
        due("boxes of " + text, g.boxes(), want);
        due("signs behind " + text, g.count(5), 0);
        due("came of " + text, g.count(0), Math.max(want, 0));
    }

    private static LooseGrid with(int... rows) {
        LooseGrid g = new LooseGrid();
        for (int n = 0; n + 5 < rows.length; n += 6) {
            g.box(rows[n], rows[n + 1], rows[n + 2], rows[n + 3], rows[n + 4], rows[n + 5]);
        }
        return g;
    }

    /** 10 boxes: squares to depth 5, four pairs. */
    private static LooseGrid town() {
        return with(0, 0, 0, 0, 4, 4, 1, 1, 2, 2, 2, 2, 2, 0, 3, 3, 1, 1, 3, 1, 0, 3, 1, 1, 0, 0, 1, 1, 2, 1,
                1, 0, 70, 10, 8, 8, 2, 1, 77, 17, 3, 3, 0, 1, 78, 10, 2, 2, 3, 0, 100, 100, 28, 28, 0, 1, 60, 60, 8, 8);
    }

    private static void p01NewObject() {
        LooseGrid g = new LooseGrid();
        for (int what = 0; what < 6; what++) due("count " + what, g.count(what), 0);
        due("time", g.told(0), 0);
        due("squares", g.told(1), 1);
        due("depth", g.told(2), 0);
        due("pairs", g.told(3), 0);
        due("cells", g.told(4), 0);
        due("room", g.told(5), 3);
        due("no image", g.undo(), -3);
        for (int tape = 0; tape < 6; tape++) due("tape " + tape, g.item(tape, 0, 1), -11);
        due("the constants", LooseGrid.NONE * 1000 + LooseGrid.BAD * 100 + LooseGrid.STATE * 10 + LooseGrid.FULL, -1234);
        due("NO", LooseGrid.NO, Long.MIN_VALUE);
    }

    private static void p02Box() {
        LooseGrid g = new LooseGrid();
        due("greatest", g.box(3, 1, 96, 96, 32, 32), 0);
        due("least at the corner", g.box(0, 0, 127, 127, 1, 1), 1);
        due("kind 4", g.box(4, 0, 0, 0, 1, 1), -1);
        due("kind -1", g.box(-1, 0, 0, 0, 0, 1), -1);
        due("layer 2", g.box(0, 2, -1, 0, 0, 1), -1);
        due("layer -1", g.box(0, -1, 0, 0, 1, 1), -1);
        due("width 0", g.box(0, 0, -1, 0, 0, 1), -2);
        due("width 33", g.box(0, 0, 0, 0, 33, 1), -2);
        due("height 0", g.box(0, 0, 0, 0, 1, 0), -2);
        due("height 33", g.box(0, 0, 0, 0, 1, 33), -2);
        due("x -1", g.box(0, 0, -1, 0, 1, 1), -3);
        due("y -1", g.box(0, 0, 0, -1, 1, 1), -3);
        due("x behind the rim", g.box(0, 0, 97, 0, 32, 1), -3);
        due("y behind the rim", g.box(0, 0, 0, 127, 1, 2), -3);
        due("x as great as can be", g.box(0, 0, Integer.MAX_VALUE, 0, 2, 1), -3);
        due("nothing came of it", g.count(0), 2);
        due("vx", g.of(0, 6), 50);
        due("vy", g.of(0, 7), 50);
        for (int n = 2; n < 40; n++) due("box " + n, g.box(0, 0, n, 0, 1, 1), n);
        due("40 came", g.box(0, 0, 0, 0, 1, 1), -4);
        due("place is named first", g.box(0, 0, 128, 0, 1, 1), -3);
        g.drop(5);
        due("a number isn't given again", g.box(0, 0, 0, 0, 1, 1), -4);
    }

    private static void p03Speed() {
        LooseGrid g = with(1, 0, 0, 0, 1, 1, 0, 0, 0, 0, 1, 1);
        due("first", g.speed(0, 9, -9), 5050);
        due("second", g.speed(0, -9, 9), 5941);
        due("third", g.speed(0, 0, 0), 4159);
        due("no such", g.speed(2, 10, 0), -10001);
        due("no such below", g.speed(-1, 0, 0), -10001);
        due("vx 10", g.speed(0, 10, 0), -10002);
        due("vx -10", g.speed(0, -10, 0), -10002);
        due("vy 10", g.speed(1, 0, 10), -10002);
        due("vy -10", g.speed(0, 0, -10), -10002);
        due("kind 0", g.speed(1, 0, 0), -10003);
        due("unchanged", g.of(0, 6), 50);
        g.drop(0);
        due("gone", g.speed(0, 0, 0), -10001);
    }

    private static void p04Move() {
        LooseGrid g = with(0, 0, 0, 0, 32, 31, 0, 0, 0, 0, 1, 1);
        due("to the corner", g.move(0, 96, 97), 96 * 96 + 97 * 97);
        due("back by 3 and 4", g.move(0, 93, 93), 25);
        due("nowhere", g.move(0, 93, 93), 0);
        due("behind the rim", g.move(0, 97, 0), -3);
        due("below the rim", g.move(0, 0, 98), -3);
        due("x -1", g.move(0, -1, 0), -3);
        due("y -1", g.move(0, 0, -1), -3);
        due("far out", g.move(0, Integer.MAX_VALUE, Integer.MAX_VALUE), -3);
        due("x stays", g.of(0, 2), 93);
        due("no such", g.move(2, -1, 0), -1);
        g.drop(1);
        due("gone", g.move(1, 0, 0), -1);
    }

    private static void p05Drop() {
        LooseGrid g = with(0, 0, 0, 0, 1, 1, 0, 1, 0, 0, 1, 1, 0, 0, 9, 9, 1, 1);
        due("one", g.drop(1), 2);
        due("again", g.drop(1), -1);
        due("no such", g.drop(3), -1);
        due("below", g.drop(-1), -1);
        due("no pair is left", g.told(3), 0);
        due("the next number", g.box(0, 0, 0, 0, 1, 1), 3);
        due("another", g.drop(0), 2);
    }

    private static void p06Room() {
        LooseGrid g = with(0, 0, 0, 0, 1, 1, 0, 1, 0, 127, 1, 1);
        due("1", g.room(1), 3);
        due("split", g.told(1), 5);
        due("9", g.room(9), 1);
        due("joined", g.told(1), 1);
        due("0", g.room(0), -2);
        due("10", g.room(10), -2);
        due("stays", g.told(5), 9);
    }

    private static void p07Feed() {
        LooseGrid g = new LooseGrid();
        for (int n = 1; n < 100; n++) due("sign " + n, g.feed(n), n);
        due("-1", g.feed(-1), -2);
        due("128", g.feed(128), -2);
        due("the last", g.feed(0), 100);
        due("full", g.feed(127), -4);
        due("bad is named first", g.feed(128), -2);
        due("100 signs", g.count(5), 100);
        due("fault", g.boxes(), -10);
        due("empty", g.feed(127), 1);
    }

    private static void p08Boxes() {
        LooseGrid g = new LooseGrid();
        feed(g, "o0,12,40:8x4>+2-1;b1,0,127:32x1>+9+9;w1,007,7:07x32>-0-9");
        due("three", g.boxes(), 3);
        int[][] rows = {{2, 0, 12, 40, 8, 4, 52, 49}, {0, 1, 0, 127, 32, 1, 50, 50}, {3, 1, 7, 7, 7, 32, 50, 41}};
        for (int b = 0; b < 3; b++) {
            for (int what = 0; what < 8; what++) due("of " + b + " " + what, g.of(b, what), rows[b][what]);
        }
        text("m0,0,0:1x1;m0,127,0:2x1;m0,1,1:1x1", 2);
        String eight = "b0,0,0:1x1;m0,0,0:1x1;o0,0,0:1x1;w0,0,0:1x1;b0,0,0:1x1;b0,0,0:1x1;b0,0,0:1x1;b0,0,0:1x1";
        text(eight, 8);
        text(eight + ";", -10 - 87);
        text(eight + ";b0,0,0:1x1", -10 - 87);
        g = new LooseGrid();
        for (int n = 0; n < 38; n++) g.box(0, 0, 0, 0, 1, 1);
        feed(g, "b0,0,0:1x1;b0,0,0:1x1;b0,0,0:1x1");
        due("no more than 40", g.boxes(), 2);
        faults();
    }

    private static void faults() {
        text("", -10);
        text("B", -10);
        text("b", -11);
        text("b2", -11);
        text("b0", -12);
        text("b00", -12);
        text("b0,", -13);
        text("b0,,", -13);
        text("b0,128", -15);
        text("b0,200", -15);
        text("b0,0001", -16);
        text("b0,13,", -16);
        text("b0,127,127", -20);
        text("b0,127,130", -19);
        text("b0,127,128:1x1", -19);
        text("b0,128,0:1x1", -15);
        text("b0,1000,0:1x1", -16);
        text("b0,0,0;", -16);
        text("b0,0,0:", -17);
        text("b0,0,0:x", -17);
        text("b0,0,0:0x1", -17);
        text("b0,0,0:00x1", -18);
        text("b0,0,0:0", -17);
        text("b0,0,0:33", -18);
        text("b0,0,0:32", -19);
        text("b0,0,0:011", -19);
        text("b0,0,0:32X", -19);
        text("b0,0,0:1x", -19);
        text("b0,0,0:1x0", -19);
        text("b0,0,0:1x00", -20);
        text("b0,0,0:1x0;", -19);
        text("b0,0,0:1x40", -20);
        text("b0,0,0:1x1 ", -20);
        text("b0,0,0:1x1;", -21);
        text("b0,0,0:1x1;;", -21);
        text("b0,0,0:1x1>", -21);
        text("b0,0,0:1x1>1", -21);
        text("b0,0,0:1x1>+", -22);
        text("b0,0,0:1x1>+1", -23);
        text("b0,0,0:1x1>+12", -23);
        text("b0,0,0:1x1>+05-1", -23);
        text("b0,0,0:1x1>+5-01", -25);
        text("b0,0,0:1x1>5-1", -21);
        text("bb,0,0:1x1", -11);
        text("b0;0,0:1x1", -12);
        text(" b0,0,0:1x1", -10);
        text("b0,,0:1x1", -13);
        text("b0,-1,0:1x1", -13);
        text("b0,0,0,1x1", -16);
        text("b0,0,0:1X1", -18);
        text("b0,0,0:1x1>++1", -22);
        text("b0,0,0:1x1>+1-2>+1-2", -25);
        text("b0,0,0:1x1>+1-", -24);
        text("b0,0,0:1x1>+1-2>", -25);
        text("b0,0,0:1x1>+1-2;m", -27);
        text("m0,0,0:1x1>+1-2", 1);
    }

    private static void p09Of() {
        LooseGrid g = town();
        g.speed(3, -9, 9);
        int[][] due = {
            {0, 0, 0, 0, 4, 4, 50, 50, 11111, 5, 1, 2},
            {1, 1, 2, 2, 2, 2, 50, 50, 11111, 5, 1, 2},
            {2, 0, 3, 3, 1, 1, 50, 50, 11111, 5, 1, 1},
            {3, 1, 0, 3, 1, 1, 41, 59, 11111, 5, 1, 1},
            {0, 0, 1, 1, 2, 1, 50, 50, 11111, 5, 1, 0},
            {1, 0, 70, 10, 8, 8, 50, 50, 2, 1, 2, 1},
            {2, 1, 77, 17, 3, 3, 50, 50, 2, 1, 1, 1},
            {0, 1, 78, 10, 2, 2, 50, 50, 2, 1, 1, 0},
            {3, 0, 100, 100, 28, 28, 50, 50, 4, 1, 4, 0},
            {0, 1, 60, 60, 8, 8, 50, 50, 0, 0, 4, 0}};
        for (int b = 0; b < due.length; b++) {
            for (int what = 0; what < 12; what++) due("of " + b + " " + what, g.of(b, what), due[b][what]);
        }
        int[][] edges = {{15, 15, 2, 2, 4}, {0, 0, 16, 16, 1}, {16, 0, 16, 17, 2}, {1, 0, 32, 1, 3}, {96, 96, 32, 32, 4}};
        for (int[] row : edges) {
            due("cells", g.of(g.box(0, 0, row[0], row[1], row[2], row[3]), 10), row[4]);
        }
        g = town();
        due("what 12", g.of(0, 12), -1);
        due("what -1", g.of(0, -1), -1);
        due("no such", g.of(10, 0), -1);
        due("below", g.of(-1, 0), -1);
        g.drop(1);
        due("gone", g.of(1, 0), -1);
        due("meets no more", g.of(2, 11), 0);
        due("meets one less", g.of(0, 11), 1);
    }

    private static void p10Square() {
        LooseGrid g = town();
        int[][] due = {
            {0, 1, 10, 1, 9}, {1, 0, 5, 1, -5}, {2, 3, 3, 0, 5}, {3, 0, 0, 0, -5}, {4, 1, 1, 0, 8},
            {1111, 0, 5, 1, -5}, {11111, 5, 5, 0, 0}, {11114, 0, 0, 0, -5}, {12, 0, 0, 0, -5}};
        for (int[] row : due) {
            for (int what = 0; what < 4; what++) due("square " + row[0] + " " + what, g.square(row[0], what), row[what + 1]);
        }
        for (int path : new int[] {5, 10, 21, 121, 111111, 11110, 11115, 1011, -1, -11, Integer.MAX_VALUE}) {
            due("no square " + path, g.square(path, 0), -1);
        }
        due("what 4", g.square(0, 4), -1);
        due("what -1", g.square(0, -1), -1);
        g.room(5);
        due("as many as room", g.square(1, 2), 0);
        due("joined", g.square(11, 0), -1);
        g.drop(9);
        due("in none", g.square(0, 3), -5);
    }

    private static void p11Cell() {
        LooseGrid g = with(0, 0, 15, 31, 1, 1, 0, 0, 15, 15, 2, 2, 0, 1, 0, 0, 16, 16, 0, 0, 127, 127, 1, 1);
        due("0 0", g.cell(0, 0, 0), 2);
        due("its first", g.cell(0, 0, 1), 1);
        due("its second", g.cell(0, 0, 2), 2);
        due("its third", g.cell(0, 0, 3), -5);
        due("0 1", g.cell(0, 1, 0), 2);
        due("its first", g.cell(0, 1, 1), 0);
        due("1 0", g.cell(1, 0, 0), 1);
        due("1 1", g.cell(1, 1, 1), 1);
        due("7 7", g.cell(7, 7, 1), 3);
        due("7 6", g.cell(7, 6, 1), -5);
        due("greatest what", g.cell(0, 0, Integer.MAX_VALUE), -5);
        for (int[] row : new int[][] {{8, 0, 0}, {-1, 0, 0}, {0, 8, 0}, {0, -1, 0}, {0, 0, -1}}) {
            due("wrong", g.cell(row[0], row[1], row[2]), -1);
        }
        g.drop(1);
        due("gone", g.cell(0, 0, 1), 2);
    }

    private static void p12Told() {
        LooseGrid g = town();
        g.pass(2);
        int[] due = {2, 21, 5, 4, 11, 3};
        for (int what = 0; what < 6; what++) due("told " + what, g.told(what), due[what]);
        due("told 6", g.told(6), -1);
        due("told -1", g.told(-1), -1);
        for (int b = 0; b < 5; b++) g.drop(b);
        int[] later = {2, 5, 1, 1, 10, 3};
        for (int what = 0; what < 6; what++) due("told " + what, g.told(what), later[what]);
    }

    private static void p13Far() {
        LooseGrid g = with(0, 0, 10, 20, 5, 6);
        due("within", g.far(0, 14, 25), 0);
        due("left", g.far(0, 7, 22), 9);
        due("right", g.far(0, 17, 22), 9);
        due("above", g.far(0, 12, 0), 400);
        due("below", g.far(0, 12, 127), 102 * 102);
        due("aslant", g.far(0, 127, 127), 113 * 113 + 102 * 102);
        for (int[] row : new int[][] {{1, 0, 0}, {-1, 0, 0}, {0, -1, 0}, {0, 128, 0}, {0, 0, -1}, {0, 0, 128}}) {
            due("wrong", g.far(row[0], row[1], row[2]), -1);
        }
        g.drop(0);
        due("gone", g.far(0, 0, 0), -1);
    }

    private static void p14Nearest() {
        LooseGrid g = with(0, 1, 20, 0, 4, 4, 1, 0, 0, 0, 3, 5, 2, 1, 6, 0, 1, 1, 3, 0, 8, 0, 16, 1, 0, 0, 0, 4, 1, 1);
        int[][] due = {{1, 2, 3, 4, 0, -5}, {1, 3, 4, -5}, {2, 0, -5}, {1, 2, 3, -5}, {3, 0, -5}};
        for (int test = 0; test < 5; test++) {
            for (int k = 0; k < due[test].length; k++) {
                due("test " + test + " " + k, g.nearest(4, 0, test, k), due[test][k]);
            }
        }
        due("like ones by number", g.nearest(3, 3, 0, 0), 1);
        due("like ones by number", g.nearest(7, 0, 0, 1), 3);
        due("greatest k", g.nearest(4, 0, 0, Integer.MAX_VALUE), -5);
        for (int[] row : new int[][] {{-1, 0, 0, 0}, {128, 0, 0, 0}, {0, -1, 0, 0}, {0, 128, 0, 0}, {0, 0, -1, 0},
            {0, 0, 5, 0}, {0, 0, 0, -1}}) {
            due("wrong", g.nearest(row[0], row[1], row[2], row[3]), -1);
        }
        g.drop(1);
        due("gone", g.nearest(4, 0, 0, 0), 2);
    }

    private static void p15Window() {
        LooseGrid g = with(0, 0, 10, 10, 5, 5, 0, 1, 15, 10, 1, 1);
        due("all", g.window(0, 0, 128, 128), 3);
        due("just left of it", g.window(0, 0, 10, 128), 0);
        due("its first column", g.window(0, 0, 11, 128), 1);
        due("its last column", g.window(14, 0, 1, 128), 1);
        due("both", g.window(14, 10, 2, 1), 3);
        due("just above", g.window(0, 0, 128, 10), 0);
        due("just below", g.window(0, 15, 128, 113), 0);
        due("within", g.window(12, 12, 1, 1), 1);
        for (int[] row : new int[][] {{0, 0, 0, 1}, {0, 0, 1, 0}, {-1, 0, 1, 1}, {0, -1, 1, 1}, {0, 0, 129, 1},
            {0, 0, 1, 129}, {1, 0, 128, 1}, {128, 0, 1, 1}, {0, 0, Integer.MIN_VALUE, 1},
            {2, 2, Integer.MAX_VALUE, Integer.MAX_VALUE}}) {
            due("wrong", g.window(row[0], row[1], row[2], row[3]), Long.MIN_VALUE);
        }
        for (int n = 2; n < 40; n++) g.box(0, 0, 127, 127, 1, 1);
        due("the highest bits", g.window(127, 127, 1, 1), (1L << 40) - 4);
        g.drop(39);
        due("gone", g.window(127, 127, 1, 1), (1L << 39) - 4);
    }

    private static void p16Pair() {
        LooseGrid g = with(0, 1, 0, 0, 4, 4, 0, 0, 3, 3, 4, 4, 0, 0, 0, 0, 9, 9, 0, 1, 6, 6, 1, 1, 0, 1, 9, 0, 4, 4);
        int[] due = {100, 103, 200, 203, -5};
        for (int k = 0; k < due.length; k++) due("pair " + k, g.pair(k), due[k]);
        due("-1", g.pair(-1), -1);
        due("greatest", g.pair(Integer.MAX_VALUE), -5);
        g.drop(0);
        due("gone", g.pair(1), 203);
        g.drop(1);
        due("gone", g.pair(0), 203);
    }

    private static void p17Pass() {
        LooseGrid g = with(1, 0, 120, 3, 5, 2, 2, 0, 120, 3, 5, 2, 3, 0, 120, 3, 5, 2, 0, 0, 120, 3, 5, 2);
        for (int b = 0; b < 3; b++) g.speed(b, 4, -3);
        due("none", g.pass(0), 0);
        int[][] places = {
            {123, 0, 123, 0, 0, 0}, {123, 0, 119, 0, 4, 124}, {123, 0, 115, 3, 8, 121}};
        int[][] speeds = {{46, 47}, {46, 53}, {46, 53}};
        due("one", g.pass(1), 1);
        due("rim", g.of(0, 2), 123);
        due("rim", g.of(0, 3), 0);
        due("a mover keeps vx", g.of(0, 6), 54);
        due("just at the rim, not turned", g.of(1, 7), 47);
        due("turned", g.of(1, 6), 46);
        due("come round", g.of(2, 2), 0);
        for (int t = 0; t < 3; t++) {
            for (int b = 0; b < 3; b++) {
                due("x of " + b + " at " + t, g.of(b, 2), places[t][2 * b]);
                due("y of " + b + " at " + t, g.of(b, 3), places[t][2 * b + 1]);
            }
            due("vx at " + t, g.of(1, 6), speeds[t][0]);
            due("vy at " + t, g.of(1, 7), speeds[t][1]);
            due("time", g.pass(1), t + 2);
        }
        due("a box stays", g.of(3, 2), 120);
        due("41", g.pass(41), -2);
        due("-1", g.pass(-1), -2);
        for (int n = 0; n < 249; n++) g.pass(40);
        due("9964", g.told(0), 9964);
        due("too late", g.pass(36), -3);
        due("the last", g.pass(35), 9999);
        due("too late", g.pass(1), -3);
        due("bad is named first", g.pass(41), -2);
        due("none", g.pass(0), 9999);
    }

    private static void p18On() {
        LooseGrid g = with(1, 0, 0, 0, 4, 4, 3, 1, 30, 0, 4, 4, 0, 0, 40, 40, 1, 1);
        g.speed(0, 9, 1);
        g.speed(1, 0, -1);
        due("x", g.on(3, 100), 27);
        due("y", g.on(3, 200), 3);
        due("y come round", g.on(3, 201), 122);
        due("pairs now", g.on(0, 0), 0);
        due("x at the end", g.on(40, 100), 124);
        g.speed(1, 0, 0);
        due("pairs then", g.on(3, 0), 1);
        g.room(1);
        due("path now", g.on(0, 300), 11);
        due("path then", g.on(6, 300), 12);
        due("path between two", g.on(7, 300), 0);
        due("path behind them", g.on(8, 300), 2);
        due("nothing changed", g.of(0, 2), 0);
        due("nor time", g.told(0), 0);
        due("41", g.on(41, 0), -2);
        due("-1", g.on(-1, 302), -2);
        for (int what : new int[] {1, 99, 103, 139, 140, 203, 303, 400, 1100, -1, -100, Integer.MIN_VALUE}) {
            due("what " + what, g.on(41, what), -1);
        }
        g.drop(1);
        due("gone", g.on(1, 101), -1);
        due("no pairs then", g.on(3, 0), 0);
    }

    private static void p19First() {
        LooseGrid g = with(1, 0, 0, 0, 1, 1, 0, 1, 40, 0, 1, 1, 0, 1, 41, 0, 1, 1, 0, 1, 0, 0, 1, 1);
        g.speed(0, 1, 0);
        due("at the last step", g.first(0, 1), 40);
        due("either way", g.first(1, 0), 40);
        due("a step too late", g.first(0, 2), -5);
        due("now", g.first(0, 3), 0);
        due("one layer", g.first(1, 2), -3);
        due("the same", g.first(0, 0), -3);
        due("no such", g.first(0, 4), -1);
        due("below", g.first(-1, 0), -1);
        due("nothing changed", g.of(0, 2), 0);
        g.drop(3);
        due("gone", g.first(0, 3), -1);
        due("gone", g.first(3, 1), -1);
    }

    private static void p20See() {
        LooseGrid g = with(0, 0, 0, 0, 1, 1);
        due("no such", g.see(1, 13, 0), -1);
        due("below", g.see(-2, 0, 0), -1);
        due("n 13", g.see(0, 13, 0), -2);
        due("n -1", g.see(0, -1, 0), -2);
        due("x 128", g.see(0, 0, 128), -2);
        due("x -1", g.see(0, 0, -1), -2);
        for (int n = 1; n <= 5; n++) due("row " + n, g.see(0, 12, 127), n);
        due("full", g.see(0, 0, 0), -4);
        due("bad is named first", g.see(0, 13, 0), -2);
        due("none then", g.see(-1, 99, -99), 0);
        due("count", g.count(2), 0);
        g.drop(0);
        due("gone", g.see(0, 0, 0), -1);
    }

    private static void p21Speeds() {
        LooseGrid g = with(1, 0, 123, 0, 1, 1, 2, 0, 123, 0, 1, 1, 3, 0, 123, 0, 1, 1, 0, 0, 5, 5, 1, 1);
        due("all", g.speeds(0, 0), 19);
        due("the least", g.speeds(0, 1), -9);
        g.see(0, 1, 127);
        due("at the rim", g.speeds(0, 0), 6);
        due("the least", g.speeds(0, 1), 4);
        due("another's row isn't so", g.speeds(1, 0), 0);
        due("none", g.speeds(1, 1), -99);
        g.see(-1, 0, 0);
        g.see(1, 2, 119);
        due("turned about", g.speeds(1, 0), 2);
        due("or so from now", g.speeds(1, 1), -2);
        g.see(1, 1, 121);
        due("both rows", g.speeds(1, 0), 1);
        due("both rows", g.speeds(1, 1), -2);
        g.see(-1, 0, 0);
        g.see(2, 12, 123);
        due("round", g.speeds(2, 0), 1);
        g.see(3, 12, 5);
        due("a box stays", g.speeds(2, 1), 0);
        due("vx as it was", g.of(2, 6), 50);
        due("kind 0", g.speeds(3, 0), -3);
        due("what is named first", g.speeds(3, 2), -1);
        due("what -1", g.speeds(0, -1), -1);
        due("no such", g.speeds(4, 0), -1);
        g.drop(3);
        due("a row of one gone", g.speeds(2, 0), 0);
        due("a row of one gone", g.speeds(2, 1), -99);
        due("gone", g.speeds(3, 0), -1);
    }

    private static void p22Odds() {
        LooseGrid g = with(0, 0, 0, 0, 1, 1, 0, 0, 127, 127, 1, 1, 0, 1, 0, 0, 1, 1);
        due("above", g.odds(0, 0), 7);
        due("below", g.odds(0, 1), 16);
        due("the other's", g.odds(1, 0), 9);
        due("never first", g.odds(2, 0), 0);
        due("in lowest terms", g.odds(2, 1), 1);
        due("part 2", g.odds(0, 2), Long.MIN_VALUE);
        due("part -1", g.odds(0, -1), Long.MIN_VALUE);
        due("no such", g.odds(3, 0), Long.MIN_VALUE);
        g.drop(0);
        due("gone", g.odds(0, 0), Long.MIN_VALUE);
        g.drop(1);
        due("alone", g.odds(2, 0), 1);
        due("alone", g.odds(2, 1), 1);
    }

    private static void p23Mean() {
        LooseGrid g = with(0, 0, 0, 0, 3, 5, 1, 0, 0, 0, 1, 6, 0, 0, 0, 0, 9, 1, 0, 0, 0, 0, 4, 1);
        due("above", g.mean(0), 17);
        due("below", g.mean(1), 2);
        g.drop(3);
        due("above", g.mean(0), 10);
        due("below", g.mean(1), 1);
        due("part 2", g.mean(2), Long.MIN_VALUE);
        due("part -1", g.mean(-1), Long.MIN_VALUE);
        for (int b = 0; b < 3; b++) g.drop(b);
        due("all gone", g.mean(0), Long.MIN_VALUE);
    }

    private static void p24Plan() {
        LooseGrid g = with(0, 0, 0, 0, 1, 1, 0, 0, 0, 0, 1, 1);
        due("a step of any", g.plan(0, -7), 1);
        due("what 4", g.plan(4, 0), -1);
        due("what -2", g.plan(-2, 0), -1);
        for (int what = 1; what <= 3; what++) {
            due("no such", g.plan(what, 2), -1);
            due("below", g.plan(what, -1), -1);
            due("one", g.plan(what, 1), what + 1);
        }
        for (int n = 5; n <= 10; n++) due("row " + n, g.plan(0, 0), n);
        due("full", g.plan(0, 0), -4);
        due("none is named first", g.plan(1, 2), -1);
        due("count", g.count(3), 10);
        due("empty", g.plan(-1, 99), 0);
        due("count", g.count(3), 0);
        g.drop(1);
        due("gone", g.plan(1, 1), -1);
    }

    private static void p25Ends() {
        LooseGrid g = with(1, 0, 60, 0, 2, 2, 2, 0, 66, 0, 2, 2, 0, 1, 64, 0, 2, 2, 0, 0, 64, 1, 2, 2);
        g.speed(0, 2, 0);
        g.speed(1, 1, 1);
        due("pairs now", g.ends(0), 1);
        due("squares now", g.ends(1), 5);
        g.plan(2, 1);
        g.plan(0, 0);
        g.plan(2, 3);
        due("turned about and a step", g.ends(0), 2);
        g.plan(0, 0);
        due("two steps", g.ends(0), 3);
        due("all four close together", g.ends(1), 21);
        g.plan(3, 1);
        due("another layer", g.ends(0), 4);
        g.plan(1, 2);
        due("one gone", g.ends(0), 2);
        due("joined", g.ends(1), 1);
        g.plan(1, 2);
        g.plan(3, 2);
        due("gone does nothing", g.ends(0), 2);
        g.plan(3, 0);
        due("against the last", g.ends(0), 2);
        due("what 2", g.ends(2), -1);
        due("what -1", g.ends(-1), -1);
        due("nothing changed", g.told(3), 1);
        due("nor speeds", g.of(1, 6), 51);
        due("nor how many", g.count(1), 4);
        g.drop(0);
        due("a row of one gone", g.ends(0), 1);
    }

    private static void p26Book() {
        LooseGrid g = with(0, 0, 0, 0, 1, 1);
        due("no such", g.book(1, -1), -1);
        due("below", g.book(-2, 0), -1);
        due("path -1", g.book(0, -1), -2);
        due("path 100000", g.book(0, 100000), -2);
        for (int n = 1; n <= 8; n++) due("row " + n, g.book(0, 99999), n);
        due("full", g.book(0, 0), -4);
        due("bad is named first", g.book(0, 100000), -2);
        due("count", g.count(4), 8);
        due("empty", g.book(-1, -5), 0);
        due("count", g.count(4), 0);
        g.drop(0);
        due("gone", g.book(0, 0), -1);
    }

    private static void p27Looked() {
        LooseGrid g = town();
        due("no rows", g.looked(), -5);
        g.book(0, 11111);
        g.book(9, 0);
        g.book(8, 4);
        due("all so", g.looked(), -5);
        g.move(8, 63, 0);
        due("the third", g.looked(), 2);
        g.drop(9);
        due("one gone", g.looked(), 1);
        g.room(9);
        due("joined", g.looked(), 0);
        g.book(-1, 0);
        due("no rows", g.looked(), -5);
    }

    private static void p28Judge() {
        LooseGrid g = new LooseGrid();
        g.tape(1, 1, 3);
        due("no box came", g.judge(0, -9), -5);
        due("another sort, named first", g.judge(1, 0), -12);
        due("tape 6", g.judge(6, 0), -1);
        due("tape -1", g.judge(-1, 0), -1);
        for (int b = 0; b < 3; b++) g.box(0, 0, 50 * b, 0, 1, 1);
        due("nothing held", g.judge(0, 0), 100);
        g.tape(0, 0, 4);
        due("place -1", g.judge(0, -1), 100);
        due("place 4", g.judge(0, 4), 100);
        due("place as great as can be", g.judge(0, Integer.MAX_VALUE), 100);
        due("place as small as can be", g.judge(0, Integer.MIN_VALUE), 100);
        due("the second is otherwise", g.judge(0, 0), 1);
        g.item(0, 2, 50);
        g.item(0, 3, 100);
        due("all so", g.judge(0, 1), -5);
        due("from 0 on", g.judge(0, 0), 1);
        g.item(0, 2, 0);
        due("ends ahead", g.judge(0, 3), 0);
        g.item(0, 3, 50);
        due("two looked at", g.judge(0, 2), 102);
        g.drop(1);
        due("gone", g.judge(0, 2), 1);
        g.item(0, 3, -1);
        due("told so", g.judge(0, 2), 102);
        g.tape(0, 3, 9);
        due("longs", g.judge(0, 0), -12);
    }

    private static void p29Image() {
        LooseGrid g = with(1, 0, 0, 0, 1, 1, 0, 0, 0, 0, 1, 1);
        due("two", g.image(), 2);
        g.drop(1);
        due("one", g.image(), 1);
        g.drop(0);
        due("none", g.image(), 0);
        due("the last one counts", g.undo(), 0);
    }

    private static void p30Undo() {
        LooseGrid g = with(1, 0, 5, 6, 1, 1, 0, 0, 0, 0, 1, 1);
        due("there is none", g.undo(), -3);
        g.speed(0, 1, 2);
        g.pass(3);
        g.room(5);
        for (int n = 1; n <= 5; n++) g.see(0, 2 * n, 8 + 2 * n);
        for (int n = 0; n < 10; n++) g.plan(n == 9 ? 1 : 3, n == 9 ? 1 : 0);
        for (int n = 0; n < 8; n++) g.book(n % 2, 0);
        g.image();
        g.feed('b');
        g.tape(0, 0, 2);
        g.speed(0, 3, 3);
        g.pass(4);
        g.drop(1);
        g.box(0, 0, 0, 0, 1, 1);
        g.room(1);
        for (int round = 0; round < 2; round++) {
            g.see(-1, 0, 0);
            for (int n = 0; n < 5; n++) g.see(0, 1, 4);
            g.plan(-1, 0);
            for (int n = 0; n < 9; n++) g.plan(1, 0);
            g.book(-1, 0);
            for (int n = 0; n < 8; n++) g.book(0, 44);
            due("undo", g.undo(), 2);
            int[] counts = {2, 2, 5, 10, 8, 1};
            for (int what = 0; what < 6; what++) due("count " + what, g.count(what), counts[what]);
            int[] of = {1, 0, 8, 12, 1, 1, 51, 52};
            for (int what = 0; what < 8; what++) due("of " + what, g.of(0, what), of[what]);
            due("time", g.told(0), 3);
            due("room", g.told(5), 5);
            due("seen", g.speeds(0, 1), 1);
            due("seen, all rows", g.speeds(0, 0), 1);
            due("book, all rows", g.looked(), -5);
            g.move(0, 0, 0);
            g.box(0, 0, 0, 0, 1, 1);
            g.box(0, 0, 2, 0, 1, 1);
            due("plan", g.ends(0), 1);
            due("its squares", g.ends(1), 1);
            due("undo", g.undo(), 2);
            due("tapes stay", g.read(0, 1), 0);
            due("the next number", g.box(0, 0, 9, 9, 1, 1), 2);
        }
    }

    private static void p31Taken() {
        LooseGrid g = with(0, 0, 0, 0, 1, 1, 1, 0, 0, 0, 1, 1, 2, 0, 0, 0, 1, 1, 3, 0, 0, 0, 1, 1);
        boolean[][] under = {{true, false, false, false}, {true, true, false, false}, {true, true, true, false},
            {true, true, false, true}};
        for (int b = 0; b < 4; b++) {
            for (int k = 0; k < 4; k++) due(b + " for " + k, g.taken(b, k), under[b][k] ? b : -12);
        }
        due("k 4", g.taken(9, 4), -2);
        due("k -1", g.taken(0, -1), -2);
        due("no such", g.taken(4, 0), -11);
        g.drop(0);
        due("gone", g.taken(0, 3), -11);
    }

    private static void p32Count() {
        LooseGrid g = with(0, 0, 0, 0, 1, 1, 0, 0, 0, 0, 1, 1, 0, 0, 0, 0, 1, 1);
        g.drop(2);
        for (int n = 0; n < 5; n++) g.see(0, 0, 0);
        for (int n = 0; n < 10; n++) g.plan(0, 0);
        for (int n = 0; n < 8; n++) g.book(0, 0);
        for (int n = 0; n < 12; n++) g.feed(0);
        int[] due = {3, 2, 5, 10, 8, 12};
        for (int what = 0; what < 6; what++) due("count " + what, g.count(what), due[what]);
        due("6", g.count(6), -2);
        due("-1", g.count(-1), -2);
    }

    private static void p33Tape() {
        LooseGrid g = new LooseGrid();
        for (int sort = 0; sort < 5; sort++) {
            due("sort " + sort, g.tape(sort, sort, 60), 1);
            due("the last", g.read(sort, 59), 0);
            due("behind it", g.read(sort, 60), Long.MIN_VALUE);
            g.item(sort, 59, 1);
            due("anew", g.tape(sort, sort, 60), 1);
            due("all 0", g.read(sort, 59), 0);
        }
        due("of none", g.tape(5, 0, 0), 1);
        due("something is there", g.item(5, 0, 0), -13);
        due("nothing", g.tape(5, -1, Integer.MIN_VALUE), 1);
        due("nothing is there", g.item(5, 0, 0), -11);
        due("tape 6", g.tape(6, 9, -1), -1);
        due("tape -1", g.tape(-1, -1, 0), -1);
        due("sort 5", g.tape(0, 5, -1), -2);
        due("sort -2", g.tape(0, -2, 0), -2);
        due("61", g.tape(0, 0, 61), -2);
        due("-1", g.tape(0, 0, -1), -14);
        due("unchanged", g.read(0, 59), 0);
    }

    private static void p34Item() {
        LooseGrid g = new LooseGrid();
        for (int sort = 0; sort < 5; sort++) g.tape(sort, sort, 2);
        long v = 0x89ABCDEF0123F0F5L;
        long[] due = {(byte) v, (short) v, (int) v, v, 1};
        for (int sort = 0; sort < 5; sort++) {
            due("item of " + sort, g.item(sort, 1, v), 1);
            due("read of " + sort, g.read(sort, 1), due[sort]);
            due("the other", g.read(sort, 0), 0);
            due("place 2", g.item(sort, 2, v), -13);
            due("place -1", g.item(sort, -1, v), -13);
            g.item(sort, 1, 0);
            due("0 again", g.read(sort, 1), 0);
        }
        g.item(4, 0, Long.MIN_VALUE);
        due("a boolean of the highest bit", g.read(4, 0), 1);
        g.item(0, 0, 128);
        due("a byte of 128", g.read(0, 0), -128);
        due("nothing", g.item(5, 0, 0), -11);
        due("tape 6", g.item(6, 0, 0), -1);
        due("tape -1", g.item(-1, 0, 0), -1);
    }

    private static void p35Read() {
        LooseGrid g = new LooseGrid();
        g.tape(3, 3, 2);
        g.item(3, 0, Long.MAX_VALUE);
        due("first", g.read(3, 0), Long.MAX_VALUE);
        due("second", g.read(3, 1), 0);
        due("place 2", g.read(3, 2), Long.MIN_VALUE);
        due("place -1", g.read(3, -1), Long.MIN_VALUE);
        due("nothing", g.read(0, 0), Long.MIN_VALUE);
        due("tape 6", g.read(6, 0), Long.MIN_VALUE);
        due("tape -1", g.read(-1, 0), Long.MIN_VALUE);
    }

    private static void p36Shift() {
        LooseGrid g = new LooseGrid();
        for (int tape = 0; tape < 2; tape++) {
            g.tape(tape, 0, 5);
            for (int i = 0; i < 5; i++) g.item(tape, i, 10 * tape + i);
        }
        g.tape(2, 1, 5);
        due("upwards onto itself", g.shift(0, 0, 0, 1, 4), 4);
        int[] up = {0, 0, 1, 2, 3};
        for (int i = 0; i < 5; i++) due("item " + i, g.read(0, i), up[i]);
        due("downwards onto itself", g.shift(1, 1, 1, 0, 4), 4);
        int[] down = {11, 12, 13, 14, 14};
        for (int i = 0; i < 5; i++) due("item " + i, g.read(1, i), down[i]);
        due("to another", g.shift(0, 3, 1, 2, 2), 2);
        int[] mixed = {11, 12, 2, 3, 14};
        for (int i = 0; i < 5; i++) due("item " + i, g.read(1, i), mixed[i]);
        due("none, at both ends", g.shift(0, 5, 1, 5, 0), 0);
        due("beyond its end", g.shift(0, 3, 1, 0, 3), -13);
        due("beyond the other's end", g.shift(0, 0, 1, 3, 3), -13);
        due("none beyond", g.shift(0, 6, 1, 0, 0), -13);
        due("i -1", g.shift(0, -1, 1, 0, 1), -13);
        due("j -1", g.shift(0, 0, 1, -1, 1), -13);
        due("n -1", g.shift(0, 1, 1, 1, -1), -13);
        due("n as great as can be", g.shift(0, 1, 1, 1, Integer.MAX_VALUE), -13);
        due("unlike sorts", g.shift(0, -1, 2, 0, 1), -12);
        due("nothing there", g.shift(0, -1, 3, 0, 1), -11);
        due("nothing here", g.shift(3, 0, 2, 0, 1), -11);
        due("no tape", g.shift(3, 0, 6, 0, 1), -1);
        due("no tape", g.shift(-1, 0, 3, 0, 1), -1);
    }

    private static void run(int number) {
        promise = "promise " + number;
        switch (number) {
            case 1: p01NewObject(); break;
            case 2: p02Box(); break;
            case 3: p03Speed(); break;
            case 4: p04Move(); break;
            case 5: p05Drop(); break;
            case 6: p06Room(); break;
            case 7: p07Feed(); break;
            case 8: p08Boxes(); break;
            case 9: p09Of(); break;
            case 10: p10Square(); break;
            case 11: p11Cell(); break;
            case 12: p12Told(); break;
            case 13: p13Far(); break;
            case 14: p14Nearest(); break;
            case 15: p15Window(); break;
            case 16: p16Pair(); break;
            case 17: p17Pass(); break;
            case 18: p18On(); break;
            case 19: p19First(); break;
            case 20: p20See(); break;
            case 21: p21Speeds(); break;
            case 22: p22Odds(); break;
            case 23: p23Mean(); break;
            case 24: p24Plan(); break;
            case 25: p25Ends(); break;
            case 26: p26Book(); break;
            case 27: p27Looked(); break;
            case 28: p28Judge(); break;
            case 29: p29Image(); break;
            case 30: p30Undo(); break;
            case 31: p31Taken(); break;
            case 32: p32Count(); break;
            case 33: p33Tape(); break;
            case 34: p34Item(); break;
            case 35: p35Read(); break;
            default: p36Shift(); break;
        }
    }

    public static void main(String[] args) {
        for (int number = 1; number <= 36; number++) run(number);
        System.out.println(checks + " calls, " + wrong + " answers not as due");
        if (wrong != 0) System.exit(1);
    }
}
