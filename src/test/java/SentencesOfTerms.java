/** The sentences of the second part of "Terms": what is asked, seen, planned, booked, and the image. */
final class SentencesOfTerms extends Sentences {
    private static final long NO = Long.MIN_VALUE;

    static void all() {
        under("Terms");
        asked();
        where();
        stepsToCome();
        seen();
        odds();
        plansAndBooks();
        image();
    }

    private static void asked() {
        keeps("All that follows is asked, goes on from how all is, and changes nothing.", "each thing that is asked", g -> {
            for (int what = 0; what < 2; what++) {
                g.far(what, 3, 4);
                g.nearest(3, 4, what, 0);
                g.pair(what);
                g.on(40, 100 * what);
                g.on(40, 101 + 100 * what);
                g.first(what, 1 - what);
                g.speeds(2, what);
                g.odds(0, what);
                g.mean(what);
                g.ends(what);
            }
            g.window(0, 0, 128, 128);
            return g.looked();
        }, 2);
        test("All that follows is asked, goes on from how all is, and changes nothing.", "from how all is now", g -> {
            place(g, 1, 0, 0, 0, 1, 1, 0, 1, 20, 0, 1, 1);
            g.speed(0, 2, 0);
            due("x", g.on(3, 100), 6);
            due("first", g.first(0, 1), 10);
            g.pass(3);
            due("x", g.on(3, 100), 12);
            due("first", g.first(0, 1), 7);
            g.speed(0, -2, 0);
            due("x", g.on(3, 100), 0);
            due("first", g.first(0, 1), -5);
        });
    }

    // ---- what is where

    private static void where() {
        test("FAR of a BOX from a point (0 .. 127 each):", "from the four corners", g -> {
            place(g, 0, 0, 10, 20, 5, 6, 0, 0, 0, 0, 1, 1);
            due("0, 0", g.far(0, 0, 0), 500);
            due("127, 0", g.far(0, 127, 0), 113 * 113 + 400);
            due("0, 127", g.far(0, 0, 127), 100 + 102 * 102);
            due("127, 127", g.far(0, 127, 127), 113 * 113 + 102 * 102);
            due("as far as can be", g.far(1, 127, 127), 32258);
            due("128, 0", g.far(0, 128, 0), -1);
            due("-1, 0", g.far(0, -1, 0), -1);
            due("0, 128", g.far(0, 0, 128), -1);
            due("0, -1", g.far(0, 0, -1), -1);
        });
        test("the square of how far x of the point is from the nearest x that it covers, and that of y, together.",
                "at its first and last places, and beside them", g -> {
            place(g, 0, 0, 10, 20, 5, 6);
            int[] xs = {9, 10, 12, 14, 15}, ys = {19, 20, 22, 25, 26}, far = {1, 0, 0, 0, 1};
            for (int i = 0; i < 5; i++) {
                for (int j = 0; j < 5; j++) due(xs[i] + ", " + ys[j], g.far(0, xs[i], ys[j]), far[i] + far[j]);
            }
            due("two beyond", g.far(0, 16, 20), 4);
            due("three ahead", g.far(0, 10, 17), 9);
        });
        test("NEAREST of a point by a TEST (0 all; 1 LAYER 0; 2 LAYER 1; 3 of KINDS that move; 4 of an area of 16 or more):",
                "each TEST", g -> {
            place(g, 0, 0, 1, 0, 4, 4, 1, 1, 7, 0, 3, 5, 2, 0, 12, 0, 16, 1, 3, 1, 30, 0, 15, 1, 0, 1, 50, 0, 1, 16);
            int[][] due = {{0, 1, 2, 3, 4, -5}, {0, 2, -5}, {1, 3, 4, -5}, {1, 2, 3, -5}, {0, 2, 4, -5}};
            for (int test = 0; test < 5; test++) {
                for (int k = 0; k < due[test].length; k++) due("TEST " + test + ", " + k, g.nearest(0, 0, test, k), due[test][k]);
            }
            due("TEST -1", g.nearest(0, 0, -1, 0), -1);
            due("TEST 5", g.nearest(0, 0, 5, 0), -1);
        });
        test("of those BOXES number k by FAR, of like ones the least number first.", "like ones, and one nearer", g -> {
            place(g, 0, 0, 60, 50, 1, 1, 0, 0, 50, 60, 1, 1, 0, 0, 50, 50, 1, 1, 0, 0, 40, 50, 1, 1);
            int[] due = {2, 0, 1, 3, -5};
            for (int k = 0; k < 5; k++) due("number " + k, g.nearest(50, 50, 0, k), due[k]);
            g.drop(0);
            int[] then = {2, 1, 3, -5};
            for (int k = 0; k < 4; k++) due("then number " + k, g.nearest(50, 50, 0, k), then[k]);
        });
        test("of those BOXES number k by FAR, of like ones the least number first.", "all alike: 40 that cover the point", g -> {
            for (int n = 0; n < 40; n++) g.box(0, 0, 32 - n % 3, 30, 9, 9);
            for (int k = 0; k < 40; k++) due("number " + k, g.nearest(34, 34, 0, k), k);
            due("number 40", g.nearest(34, 34, 0, 40), -5);
        });
        test("WINDOW (x, y, WIDTH, HEIGHT, on THE PLANE): BOXES, as bits, that cover a place of it.", "by a place, and by none", g -> {
            place(g, 0, 0, 10, 20, 5, 6, 1, 1, 15, 20, 1, 1);
            due("all", g.window(0, 0, 128, 128), 3);
            due("up to it, x", g.window(0, 0, 10, 128), 0);
            due("its first x", g.window(0, 0, 11, 128), 1);
            due("its last x, and the other's", g.window(14, 0, 2, 128), 3);
            due("behind both", g.window(16, 0, 112, 128), 0);
            due("up to it, y", g.window(0, 0, 128, 20), 0);
            due("its first y", g.window(0, 0, 128, 21), 3);
            due("its last y", g.window(0, 25, 128, 1), 1);
            due("behind it, y", g.window(0, 26, 128, 102), 0);
            due("within it", g.window(12, 22, 1, 1), 1);
        });
        test("WINDOW (x, y, WIDTH, HEIGHT, on THE PLANE): BOXES, as bits, that cover a place of it.", "the highest bits", g -> {
            dots(g, 40, 127, 127);
            due("all 40", g.window(127, 127, 1, 1), 1099511627775L);
            for (int n = 0; n < 31; n++) g.drop(n);
            due("31 .. 39", g.window(127, 127, 1, 1), 1097364144128L);
            for (int n = 31; n < 39; n++) g.drop(n);
            due("39", g.window(0, 0, 128, 128), 549755813888L);
        });
        test("PAIRS: a BOX of LAYER 0 and one of LAYER 1 that cover a place both;", "one place, and side by side", g -> {
            place(g, 0, 0, 10, 10, 4, 4, 0, 1, 13, 13, 4, 4);
            due("one place", g.told(3), 1);
            int[][] beside = {{14, 13}, {13, 14}, {14, 14}, {6, 10}, {10, 6}, {14, 10}, {10, 14}};
            for (int[] at : beside) {
                g.move(1, at[0], at[1]);
                due("at " + at[0] + ", " + at[1], g.told(3), 0);
            }
            g.move(1, 7, 7);
            due("the first place", g.told(3), 1);
        });
        test("PAIRS: a BOX of LAYER 0 and one of LAYER 1 that cover a place both;", "of unlike WIDTH and HEIGHT", g -> {
            place(g, 0, 0, 10, 20, 8, 3, 0, 1, 0, 0, 1, 1, 0, 1, 50, 60, 3, 8, 0, 0, 0, 0, 1, 1);
            for (int d = -2; d < 10; d++) {
                g.move(1, 10 + d, 21);
                g.move(3, 51, 60 + d);
                due("along it by " + d, g.told(3), d >= 0 && d < 8 ? 2 : 0);
                g.move(1, 14, 20 + d);
                g.move(3, 50 + d, 64);
                due("across it by " + d, g.told(3), d >= 0 && d < 3 ? 2 : 0);
            }
        });
        test("PAIRS: a BOX of LAYER 0 and one of LAYER 1 that cover a place both;", "none of one LAYER", g -> {
            place(g, 0, 0, 0, 0, 4, 4, 0, 0, 0, 0, 4, 4);
            due("of LAYER 0", g.told(3), 0);
            place(g, 0, 1, 9, 9, 4, 4, 0, 1, 9, 9, 4, 4);
            due("of LAYER 1", g.told(3), 0);
            due("the first", g.pair(0), -5);
        });
        test("by the number of the first, then the second;", "the first is that of LAYER 0", g -> {
            place(g, 0, 1, 0, 0, 9, 9, 0, 0, 0, 0, 9, 9, 0, 1, 0, 0, 9, 9, 0, 0, 0, 0, 9, 9);
            int[] due = {100, 102, 300, 302, -5};
            for (int k = 0; k < 5; k++) due("pair " + k, g.pair(k), due[k]);
        });
        test("MEET of a BOX: how many of the other LAYER.", "not of its own, nor those GONE", g -> {
            place(g, 0, 0, 0, 0, 4, 4, 0, 0, 0, 0, 4, 4, 0, 1, 3, 3, 1, 1, 0, 1, 0, 3, 1, 1, 0, 1, 4, 4, 1, 1);
            int[] due = {2, 2, 2, 2, 0};
            for (int n = 0; n < 5; n++) dueOf(g, n, 11, due[n]);
            g.drop(3);
            dueOf(g, 0, 11, 1);
        });
    }

    // ---- steps to come

    private static void stepsToCome() {
        String on = "ON n STEPS (0 .. 40): x; y of a BOX; how many PAIRS; PATH of the SQUARE that a BOX is in.";
        test(on, "none, and 40", g -> {
            place(g, 1, 0, 0, 127, 1, 1, 2, 1, 40, 87, 1, 1);
            g.speed(0, 1, -1);
            g.room(1);
            due("x now", g.on(0, 100), 0);
            due("y now", g.on(0, 200), 127);
            due("PAIRS now", g.on(0, 0), 0);
            due("PATH now", g.on(0, 300), 33);
            due("x", g.on(40, 100), 40);
            due("y", g.on(40, 200), 87);
            due("PAIRS", g.on(40, 0), 1);
            due("PATH", g.on(40, 300), 32323);
            due("-1", g.on(-1, 0), -2);
            due("41", g.on(41, 0), -2);
        });
        test(on, "those GONE are in none of it", g -> {
            dots(g, 4, 0, 0);
            place(g, 0, 1, 0, 0, 1, 1);
            due("PAIRS", g.on(1, 0), 4);
            due("PATH", g.on(1, 304), 11111);
            g.drop(0);
            g.drop(1);
            due("PAIRS then", g.on(1, 0), 2);
            due("PATH then", g.on(1, 304), 0);
        });
        test("FIRST STEP at which there is a PAIR of two BOXES (0: now; -5: none within 40).", "0, 1, 40 and behind it", g -> {
            place(g, 1, 0, 0, 0, 1, 1, 0, 1, 0, 0, 1, 1, 0, 1, 1, 0, 1, 1, 0, 1, 40, 0, 1, 1, 0, 1, 41, 0, 1, 1);
            g.speed(0, 1, 0);
            int[] due = {0, 1, 40, -5};
            for (int n = 0; n < 4; n++) {
                due("first 0, " + (n + 1), g.first(0, n + 1), due[n]);
                due("first " + (n + 1) + ", 0", g.first(n + 1, 0), due[n]);
            }
        });
        test("FIRST STEP at which there is a PAIR of two BOXES (0: now; -5: none within 40).", "none when one leaps over the other", g -> {
            place(g, 1, 0, 0, 0, 1, 1, 0, 1, 5, 0, 1, 1, 0, 1, 18, 0, 1, 1);
            g.speed(0, 9, 0);
            due("over it", g.first(0, 1), -5);
            due("upon it", g.first(0, 2), 2);
        });
    }

    // ---- SEEN, SPEEDS

    private static void seen() {
        String seen = "SEEN told by hand: a BOX, STEPS n (0 .. 12) from now, x then (5 rows at most; a BOX that is GONE: not so).";
        test(seen, "0 STEPS: x now", g -> {
            place(g, 1, 0, 9, 0, 1, 1);
            g.see(0, 0, 9);
            due("so", g.speeds(0, 0), 19);
            g.see(0, 0, 8);
            due("otherwise", g.speeds(0, 0), 0);
        });
        test(seen, "12 STEPS", g -> {
            place(g, 1, 0, 0, 0, 1, 1);
            g.see(0, 12, 84);
            due("how many", g.speeds(0, 0), 1);
            due("the least", g.speeds(0, 1), 7);
            due("13", g.see(0, 13, 84), -2);
            due("-1", g.see(0, -1, 84), -2);
        });
        test(seen, "from now, not from when it was told", g -> {
            place(g, 1, 0, 0, 0, 1, 1);
            g.speed(0, 2, 0);
            g.see(0, 2, 8);
            due("from 0", g.speeds(0, 1), 4);
            g.pass(1);
            due("from 2", g.speeds(0, 1), 3);
            g.move(0, 8, 0);
            due("from 8", g.speeds(0, 1), 0);
        });
        test(seen, "5 rows, each of which counts", g -> {
            place(g, 1, 0, 0, 0, 1, 1);
            for (int odd = 0; odd < 5; odd++) {
                for (int n = 1; n <= 5; n++) due("row " + n, g.see(0, n, n == odd + 1 ? 2 * n + 1 : 2 * n), n);
                due("the sixth", g.see(0, 6, 12), -4);
                due("row " + odd + " isn't so", g.speeds(0, 0), 0);
                g.see(-1, 0, 0);
            }
            for (int n = 1; n <= 5; n++) g.see(0, n, 2 * n);
            due("all are so", g.speeds(0, 1), 2);
        });
        test(seen, "a BOX that is GONE", g -> {
            place(g, 1, 0, 0, 0, 1, 1, 0, 0, 5, 0, 1, 1);
            g.see(1, 3, 5);
            due("there", g.speeds(0, 0), 19);
            g.drop(1);
            due("GONE", g.speeds(0, 0), 0);
            due("the least", g.speeds(0, 1), -99);
        });
        test("SPEEDS of a BOX (no BOX of KIND 0):", "each KIND", g -> {
            for (int kind = 0; kind < 4; kind++) place(g, kind, 0, 0, 0, 1, 1);
            for (int kind = 0; kind < 4; kind++) due("KIND " + kind, g.speeds(kind, 0), kind == 0 ? -3 : 19);
        });
        String how = "how many VX -9 .. 9 there are by which, were that its VX now, all of SEEN is so;";
        test(how, "each of them, and none beside them", g -> {
            place(g, 1, 0, 60, 0, 1, 1);
            for (int vx = -10; vx <= 10; vx++) {
                g.see(-1, 0, 0);
                g.see(0, 1, 60 + vx);
                due("how many by " + vx, g.speeds(0, 0), vx < -9 || vx > 9 ? 0 : 1);
                due("the least by " + vx, g.speeds(0, 1), vx < -9 || vx > 9 ? -99 : vx);
            }
        });
        test(how, "many at the rim", g -> {
            place(g, 1, 0, 122, 0, 1, 1);
            g.see(0, 1, 127);
            due("how many", g.speeds(0, 0), 5);
            due("the least", g.speeds(0, 1), 5);
        });
        test(how, "of one that turns, and one that comes round", g -> {
            place(g, 2, 0, 123, 0, 1, 1, 3, 0, 123, 0, 1, 1);
            g.see(0, 2, 119);
            due("turned, or straight", g.speeds(0, 0), 2);
            due("the least", g.speeds(0, 1), -2);
            g.see(-1, 0, 0);
            g.see(1, 1, 3);
            due("round", g.speeds(1, 0), 1);
            due("the least", g.speeds(1, 1), 8);
        });
        test(how, "rows of others, too", g -> {
            place(g, 1, 0, 0, 0, 1, 1, 1, 0, 20, 0, 1, 1);
            g.speed(1, 3, 0);
            g.see(0, 1, 4);
            g.see(1, 1, 23);
            due("both so", g.speeds(0, 1), 4);
            due("both so for the other", g.speeds(1, 1), -99);
            g.speed(0, 4, 0);
            due("now", g.speeds(1, 1), 3);
            g.speed(1, 2, 0);
            due("the other's isn't so", g.speeds(0, 0), 0);
        });
        test("the least (-99: none).", "of many, of one, of none", g -> {
            place(g, 1, 0, 0, 0, 1, 1);
            due("of all", g.speeds(0, 1), -9);
            g.see(0, 1, 0);
            due("how many stay at the rim", g.speeds(0, 0), 10);
            due("the least of them", g.speeds(0, 1), -9);
            g.see(0, 1, 1);
            due("none", g.speeds(0, 1), -99);
        });
    }

    // ---- ODDS, MEAN

    private static void dueFraction(String of, long above, long below, long wantAbove, long wantBelow) {
        due("above the line of " + of, above, wantAbove);
        due("below the line of " + of, below, wantBelow);
    }

    private static void moveAlong(Grid g, int box, int at, boolean isX) {
        g.move(box, isX ? at : 0, isX ? 0 : at);
    }

    private static void odds() {
        test("ODDS of a BOX: how likely it is the first of NEAREST by TEST 0 of a point,", "never, always, and like ones", g -> {
            place(g, 0, 0, 5, 5, 1, 1, 1, 1, 5, 5, 1, 1);
            dueFraction("the first of like ones", g.odds(0, 0), g.odds(0, 1), 1, 1);
            dueFraction("the second", g.odds(1, 0), g.odds(1, 1), 0, 1);
            g.drop(0);
            dueFraction("the second alone", g.odds(1, 0), g.odds(1, 1), 1, 1);
        });
        String points = "the points being those of x and y 8, 24, 40 .. 120, each alike likely:";
        for (boolean isX : new boolean[] {true, false}) {
            test(points, "each " + (isX ? "x" : "y") + " of them, and just beside it", g -> {
                place(g, 0, 0, 0, 0, 1, 1, 0, 0, 0, 0, 1, 1);
                long[] above = {0, 1, 1, 3, 1, 5, 3, 7, 1}, below = {1, 8, 4, 8, 2, 8, 4, 8, 1};
                for (int n = 0; n < 8; n++) {
                    int at = 8 + 16 * n;
                    moveAlong(g, 0, at - 1, isX);
                    moveAlong(g, 1, at + 1, isX);
                    dueFraction("those up to " + at, g.odds(0, 0), g.odds(0, 1), above[n + 1], below[n + 1]);
                    moveAlong(g, 0, at - 2, isX);
                    dueFraction("those below " + at, g.odds(0, 0), g.odds(0, 1), above[n], below[n]);
                }
            });
        }
        test("a fraction in lowest terms", "28 and 36 of 64; areas of 24 by 2 and of 30 by 4", g -> {
            place(g, 0, 0, 0, 0, 1, 1, 0, 0, 127, 127, 1, 1);
            dueFraction("28 of 64", g.odds(0, 0), g.odds(0, 1), 7, 16);
            dueFraction("36 of 64", g.odds(1, 0), g.odds(1, 1), 9, 16);
            Grid other = fresh();
            place(other, 0, 0, 0, 0, 3, 5, 0, 0, 0, 0, 9, 1);
            dueFraction("24 by 2", other.mean(0), other.mean(1), 12, 1);
            place(other, 0, 0, 0, 0, 5, 1, 0, 0, 0, 0, 1, 1);
            dueFraction("30 by 4", other.mean(0), other.mean(1), 15, 2);
        });
        test("MEAN: areas of all BOXES (those GONE aren't), together, by how many they are:", "the greatest; less one GONE", g -> {
            for (int n = 0; n < 40; n++) g.box(n % 4, n % 2, 0, 0, 32, 32);
            dueFraction("40 of the greatest", g.mean(0), g.mean(1), 1024, 1);
            for (int n = 3; n < 40; n++) g.drop(n);
            g.drop(0);
            dueFraction("two of them", g.mean(0), g.mean(1), 1024, 1);
            Grid other = fresh();
            place(other, 0, 0, 0, 0, 7, 1, 0, 1, 0, 0, 2, 2, 0, 0, 0, 0, 5, 2);
            dueFraction("7, 4 and 10", other.mean(0), other.mean(1), 7, 1);
            other.drop(2);
            dueFraction("7 and 4", other.mean(0), other.mean(1), 11, 2);
        });
        test("(NO: there are none).", "at first, and when all are GONE", g -> {
            due("at first", g.mean(0), NO);
            due("below", g.mean(1), NO);
            g.box(0, 0, 0, 0, 2, 3);
            due("one", g.mean(0), 6);
            g.drop(0);
            due("GONE", g.mean(0), NO);
            due("below", g.mean(1), NO);
        });
    }

    // ---- PLANS, BOOKS, THE IMAGE

    private static void plansAndBooks() {
        String plan = "A PLAN told by hand: what goes (0 a STEP, 1 BOX n is GONE, 2 VX, VY of BOX n are turned about, "
                + "3 BOX n is of LAYER 1; 10 rows at most):";
        test(plan, "0 a STEP", g -> {
            place(g, 1, 0, 0, 0, 2, 2, 0, 1, 4, 0, 2, 2);
            g.speed(0, 3, 0);
            due("no row", g.ends(0), 0);
            g.plan(0, 0);
            due("one STEP", g.ends(0), 1);
            g.plan(0, 0);
            due("two STEPS", g.ends(0), 0);
        });
        test(plan, "1 BOX n is GONE", g -> {
            place(g, 0, 0, 0, 0, 2, 2, 0, 1, 0, 0, 2, 2, 0, 1, 0, 0, 2, 2);
            g.plan(1, 2);
            due("PAIRS", g.ends(0), 1);
            g.plan(1, 0);
            due("PAIRS then", g.ends(0), 0);
            g.room(1);
            due("SQUARES", g.ends(1), 1);
        });
        test(plan, "2 VX, VY of BOX n are turned about", g -> {
            place(g, 1, 0, 20, 20, 1, 1, 0, 1, 17, 22, 1, 1, 2, 0, 60, 60, 1, 1);
            g.speed(0, 3, -2);
            g.plan(2, 0);
            g.plan(0, 0);
            due("turned and gone", g.ends(0), 1);
            g.plan(2, 0);
            g.plan(0, 0);
            due("and back", g.ends(0), 0);
            g.plan(-1, 0);
            g.plan(2, 2);
            g.plan(0, 0);
            due("another", g.ends(0), 0);
        });
        test(plan, "3 BOX n is of LAYER 1", g -> {
            place(g, 0, 0, 0, 0, 2, 2, 0, 0, 1, 1, 2, 2, 0, 1, 1, 1, 2, 2);
            due("at first", g.ends(0), 2);
            g.plan(3, 2);
            due("it is already", g.ends(0), 2);
            g.plan(3, 0);
            due("the first", g.ends(0), 2);
            g.plan(3, 1);
            due("all are", g.ends(0), 0);
        });
        test(plan, "10 rows, each of which counts", g -> {
            place(g, 1, 0, 0, 0, 1, 1, 0, 1, 10, 0, 1, 1);
            g.speed(0, 1, 0);
            for (int n = 1; n <= 10; n++) {
                due("row " + n, g.plan(0, 0), n);
                due("PAIRS by " + n, g.ends(0), n == 10 ? 1 : 0);
            }
            due("one more", g.plan(0, 0), -4);
        });
        test("ENDS: how many PAIRS; how many SQUARES.", "none and one; of 1 and of many", g -> {
            due("PAIRS of none", g.ends(0), 0);
            due("SQUARES of none", g.ends(1), 1);
            dots(g, 3, 0, 0);
            g.box(1, 1, 0, 0, 1, 1);
            g.speed(3, 9, 9);
            due("PAIRS now", g.ends(0), 3);
            due("SQUARES now", g.ends(1), 21);
            g.plan(0, 0);
            due("PAIRS then", g.ends(0), 0);
            due("SQUARES then", g.ends(1), 17);
        });
        String book = "A BOOK told by hand: BOXES, PATHS (0 .. 99999; 8 at most):";
        test(book, "the least and the greatest PATH", g -> {
            dots(g, 1, 0, 0);
            due("0", g.book(0, 0), 1);
            due("99999", g.book(0, 99999), 2);
            due("-1", g.book(0, -1), -2);
            due("100000", g.book(0, 100000), -2);
            due("looked", g.looked(), 1);
        });
        test(book, "8 rows, each of which counts", g -> {
            dots(g, 1, 0, 0);
            for (int odd = 0; odd < 8; odd++) {
                for (int n = 0; n < 8; n++) due("row " + n, g.book(0, n == odd ? 1 : 0), n + 1);
                due("one more", g.book(0, 0), -4);
                due("looked", g.looked(), odd);
                g.book(-1, 0);
            }
        });
        test("LOOKED at: the number (from 0) of the first of these rows by which it is otherwise now (GONE, too; -5: none).",
                "none, the first of two, GONE", g -> {
            dots(g, 2, 0, 0);
            due("no rows", g.looked(), -5);
            g.book(0, 0);
            g.book(1, 0);
            g.book(0, 0);
            due("all are so", g.looked(), -5);
            g.drop(1);
            due("GONE", g.looked(), 1);
            g.drop(0);
            due("both GONE", g.looked(), 0);
        });
        test("LOOKED at: the number (from 0) of the first of these rows by which it is otherwise now (GONE, too; -5: none).",
                "now, not when it was told", g -> {
            dots(g, 3, 0, 0);
            g.book(0, 1);
            due("a SQUARE that isn't there", g.looked(), 0);
            g.box(0, 0, 127, 127, 1, 1);
            due("SPLIT", g.looked(), -5);
            g.room(4);
            due("joined again", g.looked(), 0);
        });
    }

    private static void image() {
        String image = "THE IMAGE: BOXES with all that is theirs, TIME, ROOM, SEEN, the PLAN, the BOOK.";
        test(image, "BOXES: places, VX, VY, those GONE, those that came", g -> {
            for (int kind = 0; kind < 4; kind++) place(g, kind, kind % 2, 10 + kind, 20 + kind, 3 + kind, 7 + kind);
            for (int n = 1; n < 4; n++) g.speed(n, n, -n);
            g.drop(1);
            g.image();
            for (int n = 2; n < 4; n++) g.speed(n, -9, 9);
            g.pass(3);
            g.move(0, 0, 0);
            g.drop(3);
            dots(g, 36, 0, 0);
            due("undo", g.undo(), 3);
            dueOf(g, 0, 0, 0, 0, 10, 20, 3, 7, 50, 50);
            dueOf(g, 1, 0, -1);
            dueOf(g, 2, 0, 2, 0, 12, 22, 5, 9, 52, 48);
            dueOf(g, 3, 0, 3, 1, 13, 23, 6, 10, 53, 47);
            due("came", g.count(0), 4);
            due("the next", g.box(0, 0, 0, 0, 1, 1), 4);
        });
        test(image, "TIME and ROOM", g -> {
            g.pass(7);
            g.room(8);
            g.image();
            g.pass(1);
            g.room(1);
            g.undo();
            due("TIME", g.told(0), 7);
            due("ROOM", g.told(5), 8);
        });
        test(image, "SEEN: all rows, or none", g -> {
            place(g, 1, 0, 0, 0, 1, 1);
            g.image();
            for (int n = 1; n <= 5; n++) g.see(0, n, 3 * n);
            g.undo();
            due("none", g.count(2), 0);
            due("all VX", g.speeds(0, 0), 19);
            for (int n = 1; n <= 5; n++) g.see(0, n, 3 * n);
            g.image();
            g.see(-1, 0, 0);
            g.see(0, 1, 4);
            g.undo();
            due("5", g.count(2), 5);
            due("the VX", g.speeds(0, 1), 3);
        });
        test(image, "the PLAN: all rows, or none", g -> {
            place(g, 1, 0, 0, 0, 1, 1, 0, 1, 10, 0, 1, 1);
            g.speed(0, 1, 0);
            g.image();
            for (int n = 0; n < 10; n++) g.plan(0, 0);
            g.undo();
            due("none", g.count(3), 0);
            for (int n = 0; n < 10; n++) g.plan(0, 0);
            g.image();
            g.plan(-1, 0);
            for (int n = 0; n < 10; n++) g.plan(3, 0);
            due("otherwise", g.ends(0), 0);
            g.undo();
            due("10", g.count(3), 10);
            due("its end", g.ends(0), 1);
        });
        test(image, "the BOOK: all rows, or none", g -> {
            dots(g, 2, 0, 0);
            g.image();
            for (int n = 0; n < 8; n++) g.book(n % 2, n == 7 ? 1 : 0);
            g.undo();
            due("none", g.count(4), 0);
            for (int n = 0; n < 8; n++) g.book(n % 2, n == 7 ? 1 : 0);
            g.image();
            g.book(-1, 0);
            g.book(0, 1);
            g.undo();
            due("8", g.count(4), 8);
            due("looked", g.looked(), 7);
        });
        test(image, "nothing else: neither THE TEXT nor the TAPES", g -> {
            g.tape(0, 0, 1);
            g.image();
            feed(g, "b0");
            g.item(0, 0, 5);
            g.tape(1, 2, 3);
            g.undo();
            due("THE TEXT", g.count(5), 2);
            due("an item", g.read(0, 0), 5);
            due("a TAPE", g.read(1, 2), 0);
        });
    }
}
