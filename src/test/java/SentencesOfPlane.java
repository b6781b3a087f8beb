/** The sentences under "What it is", "The public face" and the first part of "Terms": the plane, squares, steps, the text. */
final class SentencesOfPlane extends Sentences {
    static void all() {
        face();
        boxes();
        squares();
        steps();
        text();
        faults();
    }

    private static void face() {
        under("What it is");
        test("An object is used for at most 512 calls after it has been made", "all of them are answered", g -> {
            for (int n = 0; n < 40; n++) due("box", g.box(1 + n % 3, n % 2, 3 * n, 2 * n, 1, 1), n);
            for (int n = 40; n < 511; n++) due("call " + n, g.on(40, 100), 0);
            due("the last", g.on(40, 139), 117);
        });
        under("The public face");
        test("public static final int NONE = -1, BAD = -2, STATE = -3, FULL = -4;", "the constants", g -> {
            due("NONE", LooseGrid.NONE, -1);
            due("BAD", LooseGrid.BAD, -2);
            due("STATE", LooseGrid.STATE, -3);
            due("FULL", LooseGrid.FULL, -4);
        });
        under("Terms");
        test("The constants: `NO = Long.MIN_VALUE`: There is no such number.", "the constant", g ->
                due("NO", LooseGrid.NO, -9223372036854775807L - 1));
    }

    // ---- BOXES

    private static void boxes() {
        test("THE PLANE: places x, y 0 .. 127.", "the first and the last place of each", g -> {
            due("0, 0", g.box(0, 0, 0, 0, 1, 1), 0);
            due("127, 0", g.box(0, 0, 127, 0, 1, 1), 1);
            due("0, 127", g.box(0, 0, 0, 127, 1, 1), 2);
            due("127, 127", g.box(0, 0, 127, 127, 1, 1), 3);
        });
        test("THE PLANE: places x, y 0 .. 127.", "those ahead of it and behind it", g -> {
            due("-1, 0", g.box(0, 0, -1, 0, 1, 1), -3);
            due("128, 0", g.box(0, 0, 128, 0, 1, 1), -3);
            due("0, -1", g.box(0, 0, 0, -1, 1, 1), -3);
            due("0, 128", g.box(0, 0, 0, 128, 1, 1), -3);
        });
        test("BOXES 0 .. 39, as they come,", "40 numbers, one behind the other, and no other", g -> {
            for (int n = 0; n < 40; n++) due("box", g.box(0, 0, n, 0, 1, 1), n);
            due("one more", g.box(0, 0, 0, 0, 1, 1), -4);
            for (int n = 0; n < 40; n++) due("x of " + n, g.of(n, 2), n);
            due("x of 40", g.of(40, 2), -1);
            due("x of -1", g.of(-1, 2), -1);
        });
        test("each of a KIND (0 BOX; 1 MOVER under BOX; 2 BOUNCER, 3 WRAPPER under MOVER),", "what each is", g -> {
            String[] are = {"0---", "11--", "222-", "33-3"};
            for (int kind = 0; kind < 4; kind++) {
                g.box(kind, 0, 0, 0, 1, 1);
                for (int k = 0; k < 4; k++) {
                    due(kind + " for " + k, g.taken(kind, k), are[kind].charAt(k) == '-' ? -12 : kind);
                }
            }
        });
        test("in a LAYER (0, 1), at x, y,", "both, and none beside them", g -> {
            due("0", g.box(0, 0, 5, 6, 1, 1), 0);
            due("1", g.box(0, 1, 7, 8, 1, 1), 1);
            due("2", g.box(0, 2, 0, 0, 1, 1), -1);
            due("-1", g.box(0, -1, 0, 0, 1, 1), -1);
            dueOf(g, 0, 1, 0, 5, 6);
            dueOf(g, 1, 1, 1, 7, 8);
        });
        test("with a WIDTH and a HEIGHT (1 .. 32),", "the least and the greatest", g -> {
            due("1, 32", g.box(0, 0, 0, 0, 1, 32), 0);
            due("32, 1", g.box(0, 0, 0, 0, 32, 1), 1);
            dueOf(g, 0, 4, 1, 32);
            dueOf(g, 1, 4, 32, 1);
            due("0, 1", g.box(0, 0, 0, 0, 0, 1), -2);
            due("33, 1", g.box(0, 0, 0, 0, 33, 1), -2);
            due("1, 0", g.box(0, 0, 0, 0, 1, 0), -2);
            due("1, 33", g.box(0, 0, 0, 0, 1, 33), -2);
        });
        test("all of it on THE PLANE:", "up to the last place, and one beyond", g -> {
            due("x at the rim", g.box(0, 0, 96, 0, 32, 1), 0);
            due("y at the rim", g.box(0, 0, 0, 96, 1, 32), 1);
            due("x beyond", g.box(0, 0, 97, 0, 32, 1), -3);
            due("y beyond", g.box(0, 0, 0, 97, 1, 32), -3);
        });
        test("it covers x .. x and WIDTH less 1, y likewise;", "its first and last places and those beside them", g -> {
            g.box(0, 0, 20, 30, 4, 3);
            int[] xs = {19, 20, 23, 24}, ys = {29, 30, 32, 33};
            for (int i = 0; i < 4; i++) {
                due("x " + xs[i], g.window(xs[i], 31, 1, 1), i == 1 || i == 2 ? 1 : 0);
                due("y " + ys[i], g.window(21, ys[i], 1, 1), i == 1 || i == 2 ? 1 : 0);
            }
        });
        test("with VX, VY (-9 .. 9; 0 for a BOX), or", "the least and the greatest", g -> {
            g.box(1, 0, 0, 0, 1, 1);
            due("9, -9", g.speed(0, 9, -9), 5050);
            dueOf(g, 0, 6, 59, 41);
            due("-9, 9", g.speed(0, -9, 9), 5941);
            dueOf(g, 0, 6, 41, 59);
            due("10, 0", g.speed(0, 10, 0), -10002);
            due("-10, 0", g.speed(0, -10, 0), -10002);
            due("0, 10", g.speed(0, 0, 10), -10002);
            due("0, -10", g.speed(0, 0, -10), -10002);
        });
        test("with VX, VY (-9 .. 9; 0 for a BOX), or", "a BOX has none", g -> {
            g.box(0, 0, 0, 0, 1, 1);
            due("speed", g.speed(0, 1, 1), -10003);
            dueOf(g, 0, 6, 50, 50);
        });
        test("GONE (its number isn't given again).", "the next number is another, also for a text", g -> {
            dots(g, 3, 0, 0);
            g.drop(2);
            g.drop(0);
            due("box", g.box(0, 0, 0, 0, 1, 1), 3);
            due("boxes", boxes(g, "b0,0,0:1x1"), 1);
            due("x of 4", g.of(4, 2), 0);
            due("x of 0", g.of(0, 2), -1);
            due("x of 2", g.of(2, 2), -1);
        });
        test("GONE (its number isn't given again).", "not even if all 40 came", g -> {
            dots(g, 40, 0, 0);
            for (int n = 0; n < 40; n++) g.drop(n);
            due("none is left", g.count(1), 0);
            due("box", g.box(0, 0, 0, 0, 1, 1), -4);
            due("boxes", boxes(g, "b0,0,0:1x1"), 0);
        });
        test("TIME: 0 at first.", "of a new object", g -> due("time", g.told(0), 0));
        test("ROOM: 1 .. 9 (3 at first).", "at first, the least, the greatest and those beside them", g -> {
            due("at first", g.told(5), 3);
            due("0", g.room(0), -2);
            due("10", g.room(10), -2);
            due("1", g.room(1), 3);
            due("9", g.room(9), 1);
            due("then", g.told(5), 9);
        });
    }

    // ---- SQUARES, CELLS

    private static void squares() {
        test("SQUARES: THE PLANE is one, of DEPTH 0;", "without BOXES, too", g -> {
            due("how many", g.told(1), 1);
            due("greatest depth", g.told(2), 0);
            due("in it", g.square(0, 0), 0);
            g.box(0, 0, 0, 0, 1, 1);
            dueOf(g, 0, 8, 0, 0);
        });
        test("a SQUARE that is SPLIT has four, of DEPTH 1 more, half as wide,", "places 63 and 64", g -> {
            place(g, 0, 0, 32, 0, 32, 1, 0, 0, 64, 0, 32, 1, 0, 0, 63, 0, 2, 1, 0, 0, 0, 32, 1, 32, 0, 0, 0, 63, 1, 2);
            due("how many", g.told(1), 5);
            due("greatest depth", g.told(2), 1);
            for (int path = 0; path < 7; path++) {
                due("square " + path, g.square(path, 2), path == 0 ? 1 : path < 5 ? 0 : -1);
            }
            int[] paths = {1, 2, 0, 1, 0};
            for (int n = 0; n < 5; n++) dueOf(g, n, 8, paths[n], paths[n] == 0 ? 0 : 1);
        });
        test("a SQUARE that is SPLIT has four, of DEPTH 1 more, half as wide,", "down to 4 wide, places 123 and 124", g -> {
            dots(g, 3, 127, 127);
            place(g, 0, 0, 124, 124, 4, 4, 0, 0, 123, 124, 4, 4);
            dueOf(g, 3, 8, 44444, 5);
            dueOf(g, 4, 8, 4444, 4);
        });
        test("QUARTERS 0 .. 3 of it: 0 the lesser x and y, 1 the greater x, 2 the greater y, 3 both.", "at the middle", g -> {
            place(g, 0, 0, 63, 63, 1, 1, 0, 0, 64, 63, 1, 1, 0, 0, 63, 64, 1, 1, 0, 0, 64, 64, 1, 1);
            for (int n = 0; n < 4; n++) dueOf(g, n, 8, n + 1);
        });
        test("A SQUARE is SPLIT, if more BOXES than ROOM lie whole in it,", "as many as ROOM are too few, one more is not", g -> {
            for (int room = 1; room <= 9; room++) {
                Grid at = fresh();
                at.room(room);
                dots(at, room, 100, 0);
                due("as many as ROOM " + room, at.square(0, 2), 0);
                at.box(0, 0, 0, 100, 1, 1);
                due("one more than ROOM " + room, at.square(0, 2), 1);
                at.drop(room);
                due("joined again by ROOM " + room, at.square(0, 2), 0);
            }
        });
        test("A SQUARE is SPLIT, if more BOXES than ROOM lie whole in it,", "not those that lie across its rim", g -> {
            place(g, 0, 0, 60, 0, 8, 1, 0, 0, 0, 60, 1, 8, 0, 0, 0, 0, 1, 1, 0, 0, 9, 9, 1, 1, 0, 0, 55, 55, 9, 9);
            due("THE PLANE", g.square(0, 2), 1);
            due("its first QUARTER", g.square(1, 2), 0);
            due("three lie whole in that", g.square(1, 1), 3);
            g.move(0, 56, 0);
            due("a fourth", g.square(1, 2), 1);
        });
        test("A SQUARE is SPLIT, if more BOXES than ROOM lie whole in it,", "also those that lie across its QUARTERS", g -> {
            place(g, 0, 0, 60, 60, 8, 8, 0, 0, 60, 60, 8, 8, 0, 0, 60, 60, 8, 8, 0, 0, 60, 60, 8, 8);
            due("SPLIT", g.square(0, 2), 1);
            due("all in it", g.square(0, 0), 4);
            due("how many", g.told(1), 5);
        });
        test("and its DEPTH is below 5.", "the least SQUARE isn't SPLIT by any number", g -> {
            g.room(1);
            dots(g, 40, 127, 0);
            due("how many", g.told(1), 21);
            due("greatest depth", g.told(2), 5);
            due("DEPTH 4", g.square(2222, 2), 1);
            due("DEPTH 5", g.square(22222, 2), 0);
            due("all in it", g.square(22222, 0), 40);
            due("none in THE PLANE", g.square(0, 3), -5);
            due("DEPTH 6", g.square(222222, 0), -1);
            dueOf(g, 39, 8, 22222, 5);
        });
        test("Each BOX is in that SQUARE of greatest DEPTH in which it lies whole.", "by each DEPTH", g -> {
            dots(g, 4, 0, 0);
            place(g, 0, 0, 63, 0, 2, 1, 0, 0, 31, 0, 2, 1, 0, 0, 15, 0, 2, 1, 0, 0, 7, 0, 2, 1, 0, 0, 3, 0, 2, 1);
            int[] paths = {0, 1, 11, 111, 1111};
            for (int n = 0; n < 5; n++) {
                dueOf(g, 4 + n, 8, paths[n], n);
                due("first in " + paths[n], g.square(paths[n], 3), 4 + n);
                due("in " + paths[n], g.square(paths[n], 0), 1);
            }
        });
        test("Each BOX is in that SQUARE of greatest DEPTH in which it lies whole.", "a lesser one that isn't there is none", g -> {
            dots(g, 3, 0, 0);
            dueOf(g, 0, 8, 0);
            g.box(0, 0, 127, 127, 1, 1);
            dueOf(g, 0, 8, 1);
            g.drop(3);
            dueOf(g, 0, 8, 0);
        });
        test("PATH of a SQUARE: from THE PLANE on, QUARTER by QUARTER, as digits, each 1 more (the first the highest; "
                + "THE PLANE: 0).", "unlike digits", g -> {
            g.room(1);
            place(g, 0, 0, 96, 32, 1, 1, 0, 0, 127, 63, 1, 1, 0, 0, 60, 0, 9, 9);
            dueOf(g, 0, 8, 241, 3);
            dueOf(g, 1, 8, 244, 3);
            dueOf(g, 2, 8, 0, 0);
            due("in 241", g.square(241, 3), 0);
            due("in 142", g.square(142, 3), -1);
        });
        test("PATH of a SQUARE: from THE PLANE on, QUARTER by QUARTER, as digits, each 1 more (the first the highest; "
                + "THE PLANE: 0).", "all 16 of DEPTH 2", g -> {
            g.room(2);
            int[] paths = {11, 12, 21, 22, 13, 14, 23, 24, 31, 32, 41, 42, 33, 34, 43, 44};
            for (int n = 0; n < 16; n++) dots(g, 2, 32 * (n % 4) + n, 32 * (n / 4) + 31 - n);
            for (int n = 0; n < 16; n++) {
                dueOf(g, 2 * n, 8, paths[n], 2);
                due("in " + paths[n], g.square(paths[n], 0), 2);
                due("whole in " + paths[n], g.square(paths[n], 1), 2);
                due("SPLIT " + paths[n], g.square(paths[n], 2), 0);
                due("the first in " + paths[n], g.square(paths[n], 3), 2 * n);
            }
        });
        test("CELLS: THE PLANE in 8 by 8 parts, each 16 wide;", "the first and the last place of each", g -> {
            g.box(0, 0, 0, 0, 1, 1);
            for (int n = 0; n < 8; n++) {
                for (int place = 16 * n; place < 16 * n + 16; place += 15) {
                    g.move(0, place, 127 - place);
                    due("at " + place, g.cell(n, 7 - n, 0), 1);
                }
            }
        });
        test("a BOX TOUCHES those of which it covers a place.", "of a CELL's last place and the next one's first", g -> {
            place(g, 0, 0, 15, 0, 1, 1, 0, 0, 15, 0, 2, 1, 0, 0, 15, 15, 2, 2, 0, 0, 16, 16, 16, 16, 0, 0, 16, 16, 17, 17,
                    0, 0, 15, 15, 32, 32, 0, 0, 96, 96, 32, 32);
            int[] touched = {1, 2, 4, 1, 4, 9, 4};
            for (int n = 0; n < touched.length; n++) dueOf(g, n, 10, touched[n]);
        });
    }

    // ---- STEPS

    private static void steps() {
        test("A STEP of all, one behind the other, by numbers:", "each by its own, and none is in another's way", g -> {
            place(g, 1, 0, 10, 10, 2, 2, 1, 1, 12, 10, 2, 2, 1, 0, 14, 10, 2, 2, 1, 0, 0, 0, 1, 1);
            g.speed(0, 2, 0);
            g.speed(1, 1, 1);
            g.speed(2, -3, 0);
            g.drop(3);
            due("pass", g.pass(1), 1);
            dueOf(g, 0, 2, 12, 10);
            dueOf(g, 1, 2, 13, 11);
            dueOf(g, 2, 2, 11, 10);
            due("GONE", g.of(3, 2), -1);
        });
        test("MOVER: x is VX more, y VY more;", "between the rims, and up to them", g -> {
            g.box(1, 0, 9, 110, 20, 9);
            g.speed(0, -9, 9);
            g.pass(1);
            dueOf(g, 0, 2, 0, 119);
            dueOf(g, 0, 6, 41, 59);
        });
        test("where it would leave THE PLANE, it is at the rim.", "at the lesser ones", g -> rims(g, 1, 3, 5, -4, -6, 0, 0, -4, -6));
        test("where it would leave THE PLANE, it is at the rim.", "at the greater ones", g ->
                rims(g, 1, 105, 95, 4, 6, 108, 98, 4, 6));
        test("where it would leave THE PLANE, it is at the rim.", "at one of them alone", g ->
                rims(g, 1, 3, 50, -4, 6, 0, 56, -4, 6));
        test("where it would leave THE PLANE, it is at the rim.", "and stays there", g -> {
            rims(g, 1, 108, 0, 1, -1, 108, 0, 1, -1);
            g.pass(40);
            dueOf(g, 0, 2, 108, 0, 20, 30, 51, 49);
        });
        test("BOUNCER: as MOVER;", "between the rims", g -> rims(g, 2, 50, 50, 9, -9, 59, 41, 9, -9));
        test("VX, VY each is turned about (its sign) where it came to the rim by that so that it would have left.",
                "at the lesser rims", g -> rims(g, 2, 3, 5, -4, -6, 0, 0, 4, 6));
        test("VX, VY each is turned about (its sign) where it came to the rim by that so that it would have left.",
                "at the greater rims", g -> rims(g, 2, 105, 95, 4, 6, 108, 98, -4, -6));
        test("VX, VY each is turned about (its sign) where it came to the rim by that so that it would have left.",
                "each for itself: x alone", g -> rims(g, 2, 3, 50, -4, 6, 0, 56, 4, 6));
        test("VX, VY each is turned about (its sign) where it came to the rim by that so that it would have left.",
                "each for itself: y alone", g -> rims(g, 2, 50, 97, -4, 6, 46, 98, -4, -6));
        test("VX, VY each is turned about (its sign) where it came to the rim by that so that it would have left.",
                "just at the rim it hasn't left; by the next step it would", g -> {
            rims(g, 2, 4, 92, -4, 6, 0, 98, -4, 6);
            g.pass(1);
            dueOf(g, 0, 2, 0, 98, 20, 30, 54, 44);
            g.pass(1);
            dueOf(g, 0, 2, 4, 92, 20, 30, 54, 44);
        });
        test("WRAPPER: x is VX more, modulo (129 less WIDTH), y VY more, modulo (129 less HEIGHT) (0 or above).",
                "at the rim it hasn't come round", g -> rims(g, 3, 104, 6, 4, -6, 108, 0, 4, -6));
        test("WRAPPER: x is VX more, modulo (129 less WIDTH), y VY more, modulo (129 less HEIGHT) (0 or above).",
                "one beyond it is at the other rim", g -> rims(g, 3, 105, 5, 4, -6, 0, 98, 4, -6));
        test("WRAPPER: x is VX more, modulo (129 less WIDTH), y VY more, modulo (129 less HEIGHT) (0 or above).",
                "round the other way", g -> rims(g, 3, 2, 97, -4, 6, 107, 4, -4, 6));
        test("WRAPPER: x is VX more, modulo (129 less WIDTH), y VY more, modulo (129 less HEIGHT) (0 or above).",
                "the least and the greatest WIDTH", g -> {
            place(g, 3, 0, 127, 96, 1, 32, 3, 0, 96, 127, 32, 1);
            for (int n = 0; n < 2; n++) g.speed(n, 9, 9);
            g.pass(1);
            dueOf(g, 0, 2, 8, 8);
            dueOf(g, 1, 2, 8, 8);
            for (int n = 0; n < 2; n++) g.speed(n, -9, -9);
            g.pass(1);
            dueOf(g, 0, 2, 127, 96);
            dueOf(g, 1, 2, 96, 127);
        });
        test("BOX: stays.", "by 40 STEPS", g -> {
            g.box(0, 0, 7, 9, 3, 4);
            g.pass(40);
            dueOf(g, 0, 0, 0, 0, 7, 9, 3, 4, 50, 50);
        });
        test("Then TIME is 1 more.", "also without BOXES", g -> {
            due("one", g.pass(1), 1);
            due("two", g.pass(2), 3);
            due("time", g.told(0), 3);
        });
        test("(Where it would leave THE PLANE: x below 0, or x and WIDTH above 128; y likewise.)", "by 1, and by none", g -> {
            for (int d = 0; d < 2; d++) {
                Grid at = fresh();
                place(at, 2, 0, 9 - d, 50, 5, 6, 2, 0, 114 + d, 50, 5, 6, 2, 0, 50, 9 - d, 5, 6, 2, 0, 50, 113 + d, 5, 6);
                int[][] speeds = {{-9, 0}, {9, 0}, {0, -9}, {0, 9}};
                for (int n = 0; n < 4; n++) at.speed(n, speeds[n][0], speeds[n][1]);
                at.pass(1);
                int[][] due = {{0, 50}, {123, 50}, {50, 0}, {50, 122}};
                for (int n = 0; n < 4; n++) {
                    int sign = d == 0 ? 1 : -1;
                    dueOf(at, n, 2, due[n][0], due[n][1], 5, 6, 50 + sign * speeds[n][0], 50 + sign * speeds[n][1]);
                }
            }
        });
    }

    /** One BOX, 20 wide and 30 high, by one STEP: x, y, VX, VY at first; then, as told by the last four. */
    private static void rims(Grid g, int kind, int... row) {
        g.box(kind, 0, row[0], row[1], 20, 30);
        g.speed(0, row[2], row[3]);
        g.pass(1);
        dueOf(g, 0, 2, row[4], row[5], 20, 30, 50 + row[6], 50 + row[7]);
    }

    // ---- THE TEXT

    private static final String EIGHT =
            "b0,0,0:1x1;m0,0,0:1x1;o0,0,0:1x1;w0,0,0:1x1;b1,0,0:1x1;m1,0,0:1x1;o1,0,0:1x1;w1,0,0:1x1";

    private static void text() {
        test("BOXES are read from THE TEXT (bytes, 100 at most):", "all 100 of them", g -> {
            // 87 signs, and 13 more: two speeds, and three zeros ahead
            String full = EIGHT.replace("m0,0,0:1x1", "m0,000,0:01x1>+1-1").replace("w1,0,0:1x1", "w1,0,0:1x1>-2+2");
            due("its length", full.length(), 100);
            for (int n = 0; n < 100; n++) due("feed " + n, g.feed(full.charAt(n)), n + 1);
            due("one more", g.feed('0'), -4);
            due("boxes", g.boxes(), 8);
            dueOf(g, 1, 6, 51, 49);
            dueOf(g, 7, 6, 48, 52);
        });
        test("CLAUSES, 1 to 8, with ; between:", "none", g -> text("", -10));
        test("CLAUSES, 1 to 8, with ; between:", "one", g -> text("b0,0,0:1x1", 1));
        test("CLAUSES, 1 to 8, with ; between:", "eight", g -> text(EIGHT, 8));
        test("CLAUSES, 1 to 8, with ; between:", "nine", g -> text(EIGHT + ";b0,0,0:1x1", -10 - 87));
        test("CLAUSES, 1 to 8, with ; between:", "a ; ahead of the first", g -> text(";b0,0,0:1x1", -10));
        test("CLAUSES, 1 to 8, with ; between:", "a ; behind the last", g -> text("b0,0,0:1x1;", -21));
        test("CLAUSES, 1 to 8, with ; between:", "two of them between", g -> text("b0,0,0:1x1;;b0,0,0:1x1", -21));
        test("CLAUSES, 1 to 8, with ; between:", "none between", g -> text("b0,0,0:1x1b0,0,0:1x1", -20));
        test("CLAUSES, 1 to 8, with ; between:", "a , between", g -> text("b0,0,0:1x1,b0,0,0:1x1", -20));
        test("a KIND (b m o w for 0 .. 3),", "each, and another letter", g -> {
            due("boxes", boxes(g, "b0,0,0:1x1;m0,0,0:1x1;o0,0,0:1x1;w0,0,0:1x1"), 4);
            for (int n = 0; n < 4; n++) dueOf(g, n, 0, n);
            for (char other : "acnxBMOW0 ;".toCharArray()) text(other + "0,0,0:1x1", -10);
        });
        test("a LAYER (a digit 0, 1),", "each, another digit, two digits, none", g -> {
            due("boxes", boxes(g, "b0,0,0:1x1;b1,0,0:1x1"), 2);
            dueOf(g, 0, 1, 0);
            dueOf(g, 1, 1, 1);
            text("b2,0,0:1x1", -11);
            text("b9,0,0:1x1", -11);
            text("b01,0,0:1x1", -12);
            text("b10,0,0:1x1", -12);
            text("b,0,0:1x1", -11);
        });
        test("x, y (1 to 3 digits each, 0 .. 127),", "the least and the greatest, by 1, 2 and 3 digits", g -> {
            due("boxes", boxes(g, "b0,0,127:1x1;b0,127,0:1x1;b0,00,000:1x1;b0,07,099:1x1"), 4);
            dueOf(g, 0, 2, 0, 127);
            dueOf(g, 1, 2, 127, 0);
            dueOf(g, 2, 2, 0, 0);
            dueOf(g, 3, 2, 7, 99);
        });
        test("x, y (1 to 3 digits each, 0 .. 127),", "one too great", g -> {
            text("b0,128,0:1x1", -15);
            text("b0,0,128:1x1", -17);
        });
        test("x, y (1 to 3 digits each, 0 .. 127),", "no digit, and four", g -> {
            text("b0,,0:1x1", -13);
            text("b0,0,:1x1", -15);
            text("b0,0000,0:1x1", -16);
            text("b0,0,0000:1x1", -18);
        });
        test("with , behind the LAYER and between them;", "another sign there", g -> {
            text("b0;0,0:1x1", -12);
            text("b0 0,0:1x1", -12);
            text("b0,0.0:1x1", -14);
            text("b0,0:0:1x1", -14);
            text("b0,0,0,1x1", -16);
        });
        test("then, behind a : , WIDTH and HEIGHT (1 or 2 digits each, 1 .. 32)", "the least and the greatest", g -> {
            due("boxes", boxes(g, "b0,0,0:1x32;b0,0,0:32x1;b0,0,0:01x09"), 3);
            dueOf(g, 0, 4, 1, 32);
            dueOf(g, 1, 4, 32, 1);
            dueOf(g, 2, 4, 1, 9);
        });
        test("then, behind a : , WIDTH and HEIGHT (1 or 2 digits each, 1 .. 32)", "too small and too great", g -> {
            text("b0,0,0:0x1", -17);
            text("b0,0,0:33x1", -18);
            text("b0,0,0:1x0", -19);
            text("b0,0,0:1x33", -20);
        });
        test("then, behind a : , WIDTH and HEIGHT (1 or 2 digits each, 1 .. 32)", "no digit, and three", g -> {
            text("b0,0,0:x1", -17);
            text("b0,0,0:1x", -19);
            text("b0,0,0:011x1", -19);
            text("b0,0,0:1x011", -21);
        });
        test("then, behind a : , WIDTH and HEIGHT (1 or 2 digits each, 1 .. 32)", "another sign than :", g ->
                text("b0,0,0;1x1", -16));
        test("with x (the letter) between;", "another sign", g -> {
            text("b0,0,0:1X1", -18);
            text("b0,0,0:1*1", -18);
            text("b0,0,0:1,1", -18);
        });
        test("then, perhaps, > and VX, VY: a sign + or - and a digit each.", "with them and without", g -> {
            due("boxes", boxes(g, "m0,0,0:1x1>+9-9;o0,0,0:1x1;w0,0,0:1x1>-0+0"), 3);
            dueOf(g, 0, 6, 59, 41);
            dueOf(g, 1, 6, 50, 50);
            dueOf(g, 2, 6, 50, 50);
        });
        test("then, perhaps, > and VX, VY: a sign + or - and a digit each.", "no sign, no digit, two, one alone", g -> {
            text("m0,0,0:1x1>1+1", -21);
            text("m0,0,0:1x1>+1", -23);
            text("m0,0,0:1x1>+11", -23);
            text("m0,0,0:1x1>+10-1", -23);
            text("m0,0,0:1x1>+1-10", -25);
            text("m0,0,0:1x1>+05-1", -23);
            text("m0,0,0:1x1>+1-05", -25);
            text("m0,0,0:1x1>+-1", -22);
            text("m0,0,0:1x1>+1;m0,0,0:1x1", -23);
            text("m0,0,0:1x1+1-1", -20);
            text("m0,0,0:1x1>", -21);
        });
        test("So: o0,12,40:8x4>+2-1.", "that very one", g -> {
            due("boxes", boxes(g, "o0,12,40:8x4>+2-1"), 1);
            dueOf(g, 0, 0, 2, 0, 12, 40, 8, 4, 52, 49);
            text("o0,12,40:8x4>+2-1.", -27);
        });
        test("No blanks.", "at each place a FAULT", g -> {
            String whole = "o0,12,40:8x4>+2-1";
            for (int at = 0; at <= whole.length(); at++) {
                text(whole.substring(0, at) + " " + whole.substring(at), -10 - at);
            }
        });
        test("Each comes then, one behind the other;", "by their row, and only if there is no FAULT", g -> {
            due("boxes", boxes(g, "b0,5,0:1x1;b0,3,0:1x1;b0,4,0:1x1"), 3);
            int[] xs = {5, 3, 4};
            for (int n = 0; n < 3; n++) dueOf(g, n, 2, xs[n]);
            due("a FAULT in the last", boxes(g, "b0,5,0:1x1;b0,3,0:1x1;b0,4,0:1x"), -41);
            due("none came", g.count(0), 3);
        });
        test("those that would be refused don't", "not all on THE PLANE: the others come", g -> {
            due("boxes", boxes(g, "b0,96,0:32x1;b0,97,0:32x1;b0,0,127:1x2;m0,9,0:1x1"), 2);
            due("the second", g.of(1, 2), 9);
            due("the third", g.of(2, 2), -1);
        });
        test("those that would be refused don't", "40 came", g -> {
            dots(g, 38, 0, 0);
            due("boxes", boxes(g, "b0,5,0:1x1;b0,127,0:2x1;b0,6,0:1x1;b0,7,0:1x1"), 2);
            due("the last", g.of(39, 2), 6);
            due("came", g.count(0), 40);
        });
        test("(a BOX with VX, VY: they are 0).", "it comes, and none goes by them", g -> {
            due("boxes", boxes(g, "b0,5,6:1x1>+3-4;m0,5,6:1x1>+3-4"), 2);
            dueOf(g, 0, 6, 50, 50);
            dueOf(g, 1, 6, 53, 46);
            g.pass(1);
            dueOf(g, 0, 2, 5, 6);
        });
    }

    private static void faults() {
        test("The FAULT: the place of the first byte with which none begins so", "each place", g -> {
            String whole = "o0,12,40:8x4>+2-1;m";
            for (int at = 0; at < whole.length(); at++) {
                text(whole.substring(0, at) + "?" + whole.substring(at + 1), -10 - at);
            }
        });
        test("The FAULT: the place of the first byte with which none begins so", "of two the first", g -> {
            text("b0,0,0:1x1;q;q", -21);
            text("q", -10);
        });
        test("The FAULT: the place of the first byte with which none begins so", "the first and the last sign that there is",
                g -> {
            Grid one = fresh();
            one.feed(0);
            due("0", one.boxes(), -10);
            feed(one, "b0");
            one.feed(127);
            due("127", one.boxes(), -12);
        });
        test("(the end of THE TEXT, if it ends too early);", "at each place", g -> {
            String whole = "o0,12,40:8x4>+2-1";
            for (int end = 0; end < whole.length(); end++) {
                // behind WIDTH and HEIGHT a clause may end
                text(whole.substring(0, end), end == 12 ? 1 : -10 - end);
            }
        });
        test("numbers: the place of the first digit by which one is too great,", "of two and three digits", g -> {
            text("b0,128,0:1x1", -15);
            text("b0,130,0:1x1", -15);
            text("b0,200,0:1x1", -15);
            text("b0,0,999:1x1", -17);
            text("b0,0,0:33x1", -18);
            text("b0,0,0:1x40", -20);
            text("b0,0,0:99x1", -18);
            text("b0,1280,0:1x1", -15);
        });
        test("of a number that is too small at its last digit.", "of one and two digits", g -> {
            text("b0,0,0:0x1", -17);
            text("b0,0,0:00x1", -18);
            text("b0,0,0:1x0", -19);
            text("b0,0,0:1x00", -20);
            text("b0,0,0:1x0;", -19);
            text("b0,0,0:1x00>+1+1", -20);
            text("b0,0,0:000", -18);
        });
    }
}
