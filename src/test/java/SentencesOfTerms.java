/** The sentences of the second and third part of "Terms", and of "Answers" behind them. */
final class SentencesOfTerms extends Sentences {
    private static final long NO = Long.MIN_VALUE;

    static void all() {
        under("Terms");
        asked();
        where();
        stepsToCome();
        seen();
        odds();
        plansAndBooks();
        image();
        tapes();
        judged();
        refusals();
        answers();
    }

    private static void asked() {
        keeps("All that follows is asked, goes on from how all is, and changes nothing.", "each thing that is asked", g -> {
            for (int what = 0; what < 2; what++) {
                g.far(what, 3, 4);
                g.nearest(3, 4, what, 0);
                g.pair(what);
                g.on(40, 100 * what);
                g.on(40, 101 + 100 * what);
                g.first(what, 1 - what);
                g.speeds(2, what);
                g.odds(0, what);
                g.mean(what);
                g.ends(what);
            }
            g.window(0, 0, 128, 128);
            return g.looked();
        }, 2);
        test("All that follows is asked, goes on from how all is, and changes nothing.", "from how all is now", g -> {
            place(g, 1, 0, 0, 0, 1, 1, 0, 1, 20, 0, 1, 1);
            g.speed(0, 2, 0);
            due("x", g.on(3, 100), 6);
            due("first", g.first(0, 1), 10);
            g.pass(3);
            due("x", g.on(3, 100), 12);
            due("first", g.first(0, 1), 7);
            g.speed(0, -2, 0);
            due("x", g.on(3, 100), 0);
            due("first", g.first(0, 1), -5);
        });
    }

    // ---- what is where

    private static void where() {
        test("FAR of a BOX from a point (0 .. 127 each):", "from the four corners", g -> {
            place(g, 0, 0, 10, 20, 5, 6, 0, 0, 0, 0, 1, 1);
            due("0, 0", g.far(0, 0, 0), 500);
            due("127, 0", g.far(0, 127, 0), 113 * 113 + 400);
            due("0, 127", g.far(0, 0, 127), 100 + 102 * 102);
            due("127, 127", g.far(0, 127, 127), 113 * 113 + 102 * 102);
            due("as far as can be", g.far(1, 127, 127), 32258);
            due("128, 0", g.far(0, 128, 0), -1);
            due("-1, 0", g.far(0, -1, 0), -1);
            due("0, 128", g.far(0, 0, 128), -1);
            due("0, -1", g.far(0, 0, -1), -1);
        });
        test("the square of how far x of the point is from the nearest x that it covers, and that of y, together.",
                "at its first and last places, and beside them", g -> {
            place(g, 0, 0, 10, 20, 5, 6);
            int[] xs = {9, 10, 12, 14, 15}, ys = {19, 20, 22, 25, 26}, far = {1, 0, 0, 0, 1};
            for (int i = 0; i < 5; i++) {
                for (int j = 0; j < 5; j++) due(xs[i] + ", " + ys[j], g.far(0, xs[i], ys[j]), far[i] + far[j]);
            }
            due("two beyond", g.far(0, 16, 20), 4);
            due("three ahead", g.far(0, 10, 17), 9);
        });
        test("NEAREST of a point by a TEST (0 all; 1 LAYER 0; 2 LAYER 1; 3 of KINDS that move; 4 of an area of 16 or more):",
                "each TEST", g -> {
            place(g, 0, 0, 1, 0, 4, 4, 1, 1, 7, 0, 3, 5, 2, 0, 12, 0, 16, 1, 3, 1, 30, 0, 15, 1, 0, 1, 50, 0, 1, 16);
            int[][] due = {{0, 1, 2, 3, 4, -5}, {0, 2, -5}, {1, 3, 4, -5}, {1, 2, 3, -5}, {0, 2, 4, -5}};
            for (int test = 0; test < 5; test++) {
                for (int k = 0; k < due[test].length; k++) due("TEST " + test + ", " + k, g.nearest(0, 0, test, k), due[test][k]);
            }
            due("TEST -1", g.nearest(0, 0, -1, 0), -1);
            due("TEST 5", g.nearest(0, 0, 5, 0), -1);
        });
        test("of those BOXES number k by FAR, of like ones the least number first.", "like ones, and one nearer", g -> {
            place(g, 0, 0, 60, 50, 1, 1, 0, 0, 50, 60, 1, 1, 0, 0, 50, 50, 1, 1, 0, 0, 40, 50, 1, 1);
            int[] due = {2, 0, 1, 3, -5};
            for (int k = 0; k < 5; k++) due("number " + k, g.nearest(50, 50, 0, k), due[k]);
            g.drop(0);
            int[] then = {2, 1, 3, -5};
            for (int k = 0; k < 4; k++) due("then number " + k, g.nearest(50, 50, 0, k), then[k]);
        });
        test("of those BOXES number k by FAR, of like ones the least number first.", "all alike: 40 that cover the point", g -> {
            for (int n = 0; n < 40; n++) g.box(0, 0, 32 - n % 3, 30, 9, 9);
            for (int k = 0; k < 40; k++) due("number " + k, g.nearest(34, 34, 0, k), k);
            due("number 40", g.nearest(34, 34, 0, 40), -5);
        });
        test("WINDOW (x, y, WIDTH, HEIGHT, on THE PLANE): BOXES, as bits, that cover a place of it.", "by a place, and by none", g -> {
            place(g, 0, 0, 10, 20, 5, 6, 1, 1, 15, 20, 1, 1);
            due("all", g.window(0, 0, 128, 128), 3);
            due("up to it, x", g.window(0, 0, 10, 128), 0);
            due("its first x", g.window(0, 0, 11, 128), 1);
            due("its last x, and the other's", g.window(14, 0, 2, 128), 3);
            due("behind both", g.window(16, 0, 112, 128), 0);
            due("up to it, y", g.window(0, 0, 128, 20), 0);
            due("its first y", g.window(0, 0, 128, 21), 3);
            due("its last y", g.window(0, 25, 128, 1), 1);
            due("behind it, y", g.window(0, 26, 128, 102), 0);
            due("within it", g.window(12, 22, 1, 1), 1);
        });
        test("WINDOW (x, y, WIDTH, HEIGHT, on THE PLANE): BOXES, as bits, that cover a place of it.", "the highest bits", g -> {
            dots(g, 40, 127, 127);
            due("all 40", g.window(127, 127, 1, 1), 1099511627775L);
            for (int n = 0; n < 31; n++) g.drop(n);
            due("31 .. 39", g.window(127, 127, 1, 1), 1097364144128L);
            for (int n = 31; n < 39; n++) g.drop(n);
            due("39", g.window(0, 0, 128, 128), 549755813888L);
        });
        test("PAIRS: a BOX of LAYER 0 and one of LAYER 1 that cover a place both;", "one place, and side by side", g -> {
            place(g, 0, 0, 10, 10, 4, 4, 0, 1, 13, 13, 4, 4);
            due("one place", g.told(3), 1);
            int[][] beside = {{14, 13}, {13, 14}, {14, 14}, {6, 10}, {10, 6}, {14, 10}, {10, 14}};
            for (int[] at : beside) {
                g.move(1, at[0], at[1]);
                due("at " + at[0] + ", " + at[1], g.told(3), 0);
            }
            g.move(1, 7, 7);
            due("the first place", g.told(3), 1);
        });
        test("PAIRS: a BOX of LAYER 0 and one of LAYER 1 that cover a place both;", "none of one LAYER", g -> {
            place(g, 0, 0, 0, 0, 4, 4, 0, 0, 0, 0, 4, 4);
            due("of LAYER 0", g.told(3), 0);
            place(g, 0, 1, 9, 9, 4, 4, 0, 1, 9, 9, 4, 4);
            due("of LAYER 1", g.told(3), 0);
            due("the first", g.pair(0), -5);
        });
        test("by the number of the first, then the second;", "the first is that of LAYER 0", g -> {
            place(g, 0, 1, 0, 0, 9, 9, 0, 0, 0, 0, 9, 9, 0, 1, 0, 0, 9, 9, 0, 0, 0, 0, 9, 9);
            int[] due = {100, 102, 300, 302, -5};
            for (int k = 0; k < 5; k++) due("pair " + k, g.pair(k), due[k]);
        });
        test("MEET of a BOX: how many of the other LAYER.", "not of its own, nor those GONE", g -> {
            place(g, 0, 0, 0, 0, 4, 4, 0, 0, 0, 0, 4, 4, 0, 1, 3, 3, 1, 1, 0, 1, 0, 3, 1, 1, 0, 1, 4, 4, 1, 1);
            int[] due = {2, 2, 2, 2, 0};
            for (int n = 0; n < 5; n++) dueOf(g, n, 11, due[n]);
            g.drop(3);
            dueOf(g, 0, 11, 1);
        });
    }

    // ---- steps to come

    private static void stepsToCome() {
        String on = "ON n STEPS (0 .. 40): x; y of a BOX; how many PAIRS; PATH of the SQUARE that a BOX is in.";
        test(on, "none, and 40", g -> {
            place(g, 1, 0, 0, 127, 1, 1, 2, 1, 40, 87, 1, 1);
            g.speed(0, 1, -1);
            g.room(1);
            due("x now", g.on(0, 100), 0);
            due("y now", g.on(0, 200), 127);
            due("PAIRS now", g.on(0, 0), 0);
            due("PATH now", g.on(0, 300), 33);
            due("x", g.on(40, 100), 40);
            due("y", g.on(40, 200), 87);
            due("PAIRS", g.on(40, 0), 1);
            due("PATH", g.on(40, 300), 32323);
            due("-1", g.on(-1, 0), -2);
            due("41", g.on(41, 0), -2);
        });
        test(on, "those GONE are in none of it", g -> {
            dots(g, 4, 0, 0);
            place(g, 0, 1, 0, 0, 1, 1);
            due("PAIRS", g.on(1, 0), 4);
            due("PATH", g.on(1, 304), 11111);
            g.drop(0);
            g.drop(1);
            due("PAIRS then", g.on(1, 0), 2);
            due("PATH then", g.on(1, 304), 0);
        });
        test("FIRST STEP at which there is a PAIR of two BOXES (0: now; -5: none within 40).", "0, 1, 40 and behind it", g -> {
            place(g, 1, 0, 0, 0, 1, 1, 0, 1, 0, 0, 1, 1, 0, 1, 1, 0, 1, 1, 0, 1, 40, 0, 1, 1, 0, 1, 41, 0, 1, 1);
            g.speed(0, 1, 0);
            int[] due = {0, 1, 40, -5};
            for (int n = 0; n < 4; n++) {
                due("first 0, " + (n + 1), g.first(0, n + 1), due[n]);
                due("first " + (n + 1) + ", 0", g.first(n + 1, 0), due[n]);
            }
        });
        test("FIRST STEP at which there is a PAIR of two BOXES (0: now; -5: none within 40).", "none when one leaps over the other", g -> {
            place(g, 1, 0, 0, 0, 1, 1, 0, 1, 5, 0, 1, 1, 0, 1, 18, 0, 1, 1);
            g.speed(0, 9, 0);
            due("over it", g.first(0, 1), -5);
            due("upon it", g.first(0, 2), 2);
        });
    }

    // ---- SEEN, SPEEDS

    private static void seen() {
        String seen = "SEEN told by hand: a BOX, STEPS n (0 .. 12) from now, x then (5 rows at most; a BOX that is GONE: not so).";
        test(seen, "0 STEPS: x now", g -> {
            place(g, 1, 0, 9, 0, 1, 1);
            g.see(0, 0, 9);
            due("so", g.speeds(0, 0), 19);
            g.see(0, 0, 8);
            due("otherwise", g.speeds(0, 0), 0);
        });
        test(seen, "12 STEPS", g -> {
            place(g, 1, 0, 0, 0, 1, 1);
            g.see(0, 12, 84);
            due("how many", g.speeds(0, 0), 1);
            due("the least", g.speeds(0, 1), 7);
            due("13", g.see(0, 13, 84), -2);
            due("-1", g.see(0, -1, 84), -2);
        });
        test(seen, "from now, not from when it was told", g -> {
            place(g, 1, 0, 0, 0, 1, 1);
            g.speed(0, 2, 0);
            g.see(0, 2, 8);
            due("from 0", g.speeds(0, 1), 4);
            g.pass(1);
            due("from 2", g.speeds(0, 1), 3);
            g.move(0, 8, 0);
            due("from 8", g.speeds(0, 1), 0);
        });
        test(seen, "5 rows, each of which counts", g -> {
            place(g, 1, 0, 0, 0, 1, 1);
            for (int odd = 0; odd < 5; odd++) {
                for (int n = 1; n <= 5; n++) due("row " + n, g.see(0, n, n == odd + 1 ? 2 * n + 1 : 2 * n), n);
                due("the sixth", g.see(0, 6, 12), -4);
                due("row " + odd + " isn't so", g.speeds(0, 0), 0);
                g.see(-1, 0, 0);
            }
            for (int n = 1; n <= 5; n++) g.see(0, n, 2 * n);
            due("all are so", g.speeds(0, 1), 2);
        });
        test(seen, "a BOX that is GONE", g -> {
            place(g, 1, 0, 0, 0, 1, 1, 0, 0, 5, 0, 1, 1);
            g.see(1, 3, 5);
            due("there", g.speeds(0, 0), 19);
            g.drop(1);
            due("GONE", g.speeds(0, 0), 0);
            due("the least", g.speeds(0, 1), -99);
        });
        test("SPEEDS of a BOX (no BOX of KIND 0):", "each KIND", g -> {
            for (int kind = 0; kind < 4; kind++) place(g, kind, 0, 0, 0, 1, 1);
            for (int kind = 0; kind < 4; kind++) due("KIND " + kind, g.speeds(kind, 0), kind == 0 ? -3 : 19);
        });
        String how = "how many VX -9 .. 9 there are by which, were that its VX now, all of SEEN is so;";
        test(how, "each of them, and none beside them", g -> {
            place(g, 1, 0, 60, 0, 1, 1);
            for (int vx = -10; vx <= 10; vx++) {
                g.see(-1, 0, 0);
                g.see(0, 1, 60 + vx);
                due("how many by " + vx, g.speeds(0, 0), vx < -9 || vx > 9 ? 0 : 1);
                due("the least by " + vx, g.speeds(0, 1), vx < -9 || vx > 9 ? -99 : vx);
            }
        });
        test(how, "many at the rim", g -> {
            place(g, 1, 0, 122, 0, 1, 1);
            g.see(0, 1, 127);
            due("how many", g.speeds(0, 0), 5);
            due("the least", g.speeds(0, 1), 5);
        });
        test(how, "of one that turns, and one that comes round", g -> {
            place(g, 2, 0, 123, 0, 1, 1, 3, 0, 123, 0, 1, 1);
            g.see(0, 2, 119);
            due("turned, or straight", g.speeds(0, 0), 2);
            due("the least", g.speeds(0, 1), -2);
            g.see(-1, 0, 0);
            g.see(1, 1, 3);
            due("round", g.speeds(1, 0), 1);
            due("the least", g.speeds(1, 1), 8);
        });
        test(how, "rows of others, too", g -> {
            place(g, 1, 0, 0, 0, 1, 1, 1, 0, 20, 0, 1, 1);
            g.speed(1, 3, 0);
            g.see(0, 1, 4);
            g.see(1, 1, 23);
            due("both so", g.speeds(0, 1), 4);
            due("both so for the other", g.speeds(1, 1), -99);
            g.speed(0, 4, 0);
            due("now", g.speeds(1, 1), 3);
            g.speed(1, 2, 0);
            due("the other's isn't so", g.speeds(0, 0), 0);
        });
        test("the least (-99: none).", "of many, of one, of none", g -> {
            place(g, 1, 0, 0, 0, 1, 1);
            due("of all", g.speeds(0, 1), -9);
            g.see(0, 1, 0);
            due("how many stay at the rim", g.speeds(0, 0), 10);
            due("the least of them", g.speeds(0, 1), -9);
            g.see(0, 1, 1);
            due("none", g.speeds(0, 1), -99);
        });
    }

    // ---- ODDS, MEAN

    private static void dueFraction(String of, long above, long below, long wantAbove, long wantBelow) {
        due("above the line of " + of, above, wantAbove);
        due("below the line of " + of, below, wantBelow);
    }

    private static void odds() {
        test("ODDS of a BOX: how likely it is the first of NEAREST by TEST 0 of a point,", "never, always, and like ones", g -> {
            place(g, 0, 0, 5, 5, 1, 1, 1, 1, 5, 5, 1, 1);
            dueFraction("the first of like ones", g.odds(0, 0), g.odds(0, 1), 1, 1);
            dueFraction("the second", g.odds(1, 0), g.odds(1, 1), 0, 1);
            g.drop(0);
            dueFraction("the second alone", g.odds(1, 0), g.odds(1, 1), 1, 1);
        });
        String points = "the points being those of x and y 8, 24, 40 .. 120, each alike likely:";
        test(points, "each x of them, and just beside it", g -> {
            place(g, 0, 0, 0, 0, 1, 1, 0, 0, 0, 0, 1, 1);
            long[] above = {0, 1, 1, 3, 1, 5, 3, 7, 1}, below = {1, 8, 4, 8, 2, 8, 4, 8, 1};
            for (int n = 0; n < 8; n++) {
                int x = 8 + 16 * n;
                g.move(0, x - 1, 0);
                g.move(1, x + 1, 0);
                dueFraction("those up to x " + x, g.odds(0, 0), g.odds(0, 1), above[n + 1], below[n + 1]);
                g.move(0, x - 2, 0);
                dueFraction("those below x " + x, g.odds(0, 0), g.odds(0, 1), above[n], below[n]);
            }
        });
        test(points, "each y of them, and just beside it", g -> {
            place(g, 0, 0, 0, 0, 1, 1, 0, 0, 0, 0, 1, 1);
            long[] above = {0, 1, 1, 3, 1, 5, 3, 7, 1}, below = {1, 8, 4, 8, 2, 8, 4, 8, 1};
            for (int n = 0; n < 8; n++) {
                int y = 8 + 16 * n;
                g.move(0, 0, y - 1);
                g.move(1, 0, y + 1);
                dueFraction("those up to y " + y, g.odds(0, 0), g.odds(0, 1), above[n + 1], below[n + 1]);
                g.move(0, 0, y - 2);
                dueFraction("those below y " + y, g.odds(0, 0), g.odds(0, 1), above[n], below[n]);
            }
        });
        test("a fraction in lowest terms", "28 and 36 of 64; areas of 24 by 2 and of 30 by 4", g -> {
            place(g, 0, 0, 0, 0, 1, 1, 0, 0, 127, 127, 1, 1);
            dueFraction("28 of 64", g.odds(0, 0), g.odds(0, 1), 7, 16);
            dueFraction("36 of 64", g.odds(1, 0), g.odds(1, 1), 9, 16);
            Grid other = fresh();
            place(other, 0, 0, 0, 0, 3, 5, 0, 0, 0, 0, 9, 1);
            dueFraction("24 by 2", other.mean(0), other.mean(1), 12, 1);
            place(other, 0, 0, 0, 0, 5, 1, 0, 0, 0, 0, 1, 1);
            dueFraction("30 by 4", other.mean(0), other.mean(1), 15, 2);
        });
        test("MEAN: areas of all BOXES (those GONE aren't), together, by how many they are:", "the greatest; less one GONE", g -> {
            for (int n = 0; n < 40; n++) g.box(n % 4, n % 2, 0, 0, 32, 32);
            dueFraction("40 of the greatest", g.mean(0), g.mean(1), 1024, 1);
            for (int n = 3; n < 40; n++) g.drop(n);
            g.drop(0);
            dueFraction("two of them", g.mean(0), g.mean(1), 1024, 1);
            Grid other = fresh();
            place(other, 0, 0, 0, 0, 7, 1, 0, 1, 0, 0, 2, 2, 0, 0, 0, 0, 5, 2);
            dueFraction("7, 4 and 10", other.mean(0), other.mean(1), 7, 1);
            other.drop(2);
            dueFraction("7 and 4", other.mean(0), other.mean(1), 11, 2);
        });
        test("(NO: there are none).", "at first, and when all are GONE", g -> {
            due("at first", g.mean(0), NO);
            due("below", g.mean(1), NO);
            g.box(0, 0, 0, 0, 2, 3);
            due("one", g.mean(0), 6);
            g.drop(0);
            due("GONE", g.mean(0), NO);
            due("below", g.mean(1), NO);
        });
    }

    // ---- PLANS, BOOKS, THE IMAGE

    private static void plansAndBooks() {
        String plan = "A PLAN told by hand: what goes (0 a STEP, 1 BOX n is GONE, 2 VX, VY of BOX n are turned about, "
                + "3 BOX n is of LAYER 1; 10 rows at most):";
        test(plan, "0 a STEP", g -> {
            place(g, 1, 0, 0, 0, 2, 2, 0, 1, 4, 0, 2, 2);
            g.speed(0, 3, 0);
            due("no row", g.ends(0), 0);
            g.plan(0, 0);
            due("one STEP", g.ends(0), 1);
            g.plan(0, 0);
            due("two STEPS", g.ends(0), 0);
        });
        test(plan, "1 BOX n is GONE", g -> {
            place(g, 0, 0, 0, 0, 2, 2, 0, 1, 0, 0, 2, 2, 0, 1, 0, 0, 2, 2);
            g.plan(1, 2);
            due("PAIRS", g.ends(0), 1);
            g.plan(1, 0);
            due("PAIRS then", g.ends(0), 0);
            g.room(1);
            due("SQUARES", g.ends(1), 1);
        });
        test(plan, "2 VX, VY of BOX n are turned about", g -> {
            place(g, 1, 0, 20, 20, 1, 1, 0, 1, 17, 22, 1, 1, 2, 0, 60, 60, 1, 1);
            g.speed(0, 3, -2);
            g.plan(2, 0);
            g.plan(0, 0);
            due("turned and gone", g.ends(0), 1);
            g.plan(2, 0);
            g.plan(0, 0);
            due("and back", g.ends(0), 0);
            g.plan(-1, 0);
            g.plan(2, 2);
            g.plan(0, 0);
            due("another", g.ends(0), 0);
        });
        test(plan, "3 BOX n is of LAYER 1", g -> {
            place(g, 0, 0, 0, 0, 2, 2, 0, 0, 1, 1, 2, 2, 0, 1, 1, 1, 2, 2);
            due("at first", g.ends(0), 2);
            g.plan(3, 2);
            due("it is already", g.ends(0), 2);
            g.plan(3, 0);
            due("the first", g.ends(0), 2);
            g.plan(3, 1);
            due("all are", g.ends(0), 0);
        });
        test(plan, "10 rows, each of which counts", g -> {
            place(g, 1, 0, 0, 0, 1, 1, 0, 1, 10, 0, 1, 1);
            g.speed(0, 1, 0);
            for (int n = 1; n <= 10; n++) {
                due("row " + n, g.plan(0, 0), n);
                due("PAIRS by " + n, g.ends(0), n == 10 ? 1 : 0);
            }
            due("one more", g.plan(0, 0), -4);
        });
        test("ENDS: how many PAIRS; how many SQUARES.", "none and one; of 1 and of many", g -> {
            due("PAIRS of none", g.ends(0), 0);
            due("SQUARES of none", g.ends(1), 1);
            dots(g, 3, 0, 0);
            g.box(1, 1, 0, 0, 1, 1);
            g.speed(3, 9, 9);
            due("PAIRS now", g.ends(0), 3);
            due("SQUARES now", g.ends(1), 21);
            g.plan(0, 0);
            due("PAIRS then", g.ends(0), 0);
            due("SQUARES then", g.ends(1), 17);
        });
        String book = "A BOOK told by hand: BOXES, PATHS (0 .. 99999; 8 at most):";
        test(book, "the least and the greatest PATH", g -> {
            dots(g, 1, 0, 0);
            due("0", g.book(0, 0), 1);
            due("99999", g.book(0, 99999), 2);
            due("-1", g.book(0, -1), -2);
            due("100000", g.book(0, 100000), -2);
            due("looked", g.looked(), 1);
        });
        test(book, "8 rows, each of which counts", g -> {
            dots(g, 1, 0, 0);
            for (int odd = 0; odd < 8; odd++) {
                for (int n = 0; n < 8; n++) due("row " + n, g.book(0, n == odd ? 1 : 0), n + 1);
                due("one more", g.book(0, 0), -4);
                due("looked", g.looked(), odd);
                g.book(-1, 0);
            }
        });
        test("LOOKED at: the number (from 0) of the first of these rows by which it is otherwise now (GONE, too; -5: none).",
                "none, the first of two, GONE", g -> {
            dots(g, 2, 0, 0);
            due("no rows", g.looked(), -5);
            g.book(0, 0);
            g.book(1, 0);
            g.book(0, 0);
            due("all are so", g.looked(), -5);
            g.drop(1);
            due("GONE", g.looked(), 1);
            g.drop(0);
            due("both GONE", g.looked(), 0);
        });
        test("LOOKED at: the number (from 0) of the first of these rows by which it is otherwise now (GONE, too; -5: none).",
                "now, not when it was told", g -> {
            dots(g, 3, 0, 0);
            g.book(0, 1);
            due("a SQUARE that isn't there", g.looked(), 0);
            g.box(0, 0, 127, 127, 1, 1);
            due("SPLIT", g.looked(), -5);
            g.room(4);
            due("joined again", g.looked(), 0);
        });
    }

    private static void image() {
        String image = "THE IMAGE: BOXES with all that is theirs, TIME, ROOM, SEEN, the PLAN, the BOOK.";
        test(image, "BOXES: places, VX, VY, those GONE, those that came", g -> {
            for (int kind = 0; kind < 4; kind++) place(g, kind, kind % 2, 10 + kind, 20 + kind, 3 + kind, 7 + kind);
            for (int n = 1; n < 4; n++) g.speed(n, n, -n);
            g.drop(1);
            g.image();
            for (int n = 2; n < 4; n++) g.speed(n, -9, 9);
            g.pass(3);
            g.move(0, 0, 0);
            g.drop(3);
            dots(g, 36, 0, 0);
            due("undo", g.undo(), 3);
            dueOf(g, 0, 0, 0, 0, 10, 20, 3, 7, 50, 50);
            dueOf(g, 1, 0, -1);
            dueOf(g, 2, 0, 2, 0, 12, 22, 5, 9, 52, 48);
            dueOf(g, 3, 0, 3, 1, 13, 23, 6, 10, 53, 47);
            due("came", g.count(0), 4);
            due("the next", g.box(0, 0, 0, 0, 1, 1), 4);
        });
        test(image, "TIME and ROOM", g -> {
            g.pass(7);
            g.room(8);
            g.image();
            g.pass(1);
            g.room(1);
            g.undo();
            due("TIME", g.told(0), 7);
            due("ROOM", g.told(5), 8);
        });
        test(image, "SEEN: all rows, or none", g -> {
            place(g, 1, 0, 0, 0, 1, 1);
            g.image();
            for (int n = 1; n <= 5; n++) g.see(0, n, 3 * n);
            g.undo();
            due("none", g.count(2), 0);
            due("all VX", g.speeds(0, 0), 19);
            for (int n = 1; n <= 5; n++) g.see(0, n, 3 * n);
            g.image();
            g.see(-1, 0, 0);
            g.see(0, 1, 4);
            g.undo();
            due("5", g.count(2), 5);
            due("the VX", g.speeds(0, 1), 3);
        });
        test(image, "the PLAN: all rows, or none", g -> {
            place(g, 1, 0, 0, 0, 1, 1, 0, 1, 10, 0, 1, 1);
            g.speed(0, 1, 0);
            g.image();
            for (int n = 0; n < 10; n++) g.plan(0, 0);
            g.undo();
            due("none", g.count(3), 0);
            for (int n = 0; n < 10; n++) g.plan(0, 0);
            g.image();
            g.plan(-1, 0);
            for (int n = 0; n < 10; n++) g.plan(3, 0);
            due("otherwise", g.ends(0), 0);
            g.undo();
            due("10", g.count(3), 10);
            due("its end", g.ends(0), 1);
        });
        test(image, "the BOOK: all rows, or none", g -> {
            dots(g, 2, 0, 0);
            g.image();
            for (int n = 0; n < 8; n++) g.book(n % 2, n == 7 ? 1 : 0);
            g.undo();
            due("none", g.count(4), 0);
            for (int n = 0; n < 8; n++) g.book(n % 2, n == 7 ? 1 : 0);
            g.image();
            g.book(-1, 0);
            g.book(0, 1);
            g.undo();
            due("8", g.count(4), 8);
            due("looked", g.looked(), 7);
        });
        test(image, "nothing else: neither THE TEXT nor the TAPES", g -> {
            g.tape(0, 0, 1);
            g.image();
            feed(g, "b0");
            g.item(0, 0, 5);
            g.tape(1, 2, 3);
            g.undo();
            due("THE TEXT", g.count(5), 2);
            due("an item", g.read(0, 0), 5);
            due("a TAPE", g.read(1, 2), 0);
        });
    }

    // ---- TAPES

    private static void tapes() {
        String tapes = "TAPES 0 .. 5 hold nothing (at first), or a row of 0 bytes, 1 shorts, 2 ints, 3 longs, "
                + "4 booleans (items 0, 1).";
        test(tapes, "nothing at first, and none beside them", g -> {
            for (int tape = 0; tape < 6; tape++) due("TAPE " + tape, g.item(tape, 0, 0), -11);
            due("TAPE 6", g.item(6, 0, 0), -1);
            due("TAPE -1", g.item(-1, 0, 0), -1);
        });
        test(tapes, "the least and the greatest of each sort, and one beyond", g -> {
            long[] most = {127, 32767, 2147483647L, Long.MAX_VALUE};
            for (int sort = 0; sort < 4; sort++) {
                g.tape(sort, sort, 2);
                g.item(sort, 0, most[sort]);
                g.item(sort, 1, -most[sort] - 1);
                due("the greatest of " + sort, g.read(sort, 0), most[sort]);
                due("the least of " + sort, g.read(sort, 1), -most[sort] - 1);
                g.item(sort, 0, most[sort] + 1);
                g.item(sort, 1, -most[sort] - 2);
                due("one above it of " + sort, g.read(sort, 0), -most[sort] - 1);
                due("one below it of " + sort, g.read(sort, 1), most[sort]);
            }
        });
        test(tapes, "booleans are 0 or 1", g -> {
            g.tape(0, 4, 1);
            long[] vs = {1, 2, -1, 256, 1L << 32, Long.MIN_VALUE};
            for (long v : vs) {
                g.item(0, 0, v);
                due("by " + v, g.read(0, 0), 1);
                g.item(0, 0, 0);
                due("by 0", g.read(0, 0), 0);
            }
        });
        test(tapes, "each sort is another", g -> {
            for (int sort = 0; sort < 5; sort++) g.tape(sort, sort, 1);
            for (int a = 0; a < 5; a++) {
                for (int b = 0; b < 5; b++) due(a + " to " + b, g.shift(a, 0, b, 0, 1), a == b ? 1 : -12);
            }
        });
    }

    /** A row of bytes on TAPE 0. */
    private static void row(Grid g, int... items) {
        g.tape(0, 0, items.length);
        for (int i = 0; i < items.length; i++) g.item(0, i, items[i]);
    }

    private static void judged() {
        test("x of BOXES told by a row of bytes (-1: GONE), from a place on, BOX by BOX, are JUDGED:", "GONE, and from places on", g -> {
            place(g, 0, 0, 0, 5, 1, 1, 0, 0, 127, 5, 1, 1, 0, 0, 64, 5, 1, 1);
            row(g, 0, 127, 64, 0, -1, 64);
            due("from 0", g.judge(0, 0), -5);
            due("from 3", g.judge(0, 3), 1);
            g.drop(1);
            due("from 0 then", g.judge(0, 0), 1);
            due("from 3 then", g.judge(0, 3), -5);
        });
        test("x of BOXES told by a row of bytes (-1: GONE), from a place on, BOX by BOX, are JUDGED:", "GONE isn't x that was", g -> {
            dots(g, 1, 3, 0);
            row(g, 3, -1);
            g.drop(0);
            due("x that was", g.judge(0, 0), 0);
            due("-1", g.judge(0, 1), -5);
        });
        test("the first that is otherwise (counted from 0 from that place on);", "of two, and the last", g -> {
            place(g, 0, 0, 1, 0, 1, 1, 0, 0, 2, 0, 1, 1, 0, 0, 3, 0, 1, 1);
            row(g, 9, 1, 9, 9, 1, 2, 9);
            due("from 1", g.judge(0, 1), 1);
            due("from 4", g.judge(0, 4), 2);
            due("from 0", g.judge(0, 0), 0);
        });
        String none = "-5: none, or no BOX came (wherever the place is, also if the TAPE holds nothing);";
        test(none, "no BOX came", g -> {
            int[] places = {0, 1, 5, -1, Integer.MAX_VALUE, Integer.MIN_VALUE};
            for (int i : places) due("nothing held, place " + i, g.judge(0, i), -5);
            g.tape(0, 0, 0);
            for (int i : places) due("an empty row, place " + i, g.judge(0, i), -5);
            g.tape(0, 0, 3);
            for (int i : places) due("a row of 3, place " + i, g.judge(0, i), -5);
        });
        test(none, "a BOX that is GONE came", g -> {
            dots(g, 1, 0, 0);
            g.drop(0);
            due("nothing held", g.judge(0, 0), 100);
            row(g, 0, -1);
            due("otherwise", g.judge(0, 0), 0);
            due("so", g.judge(0, 1), -5);
        });
        test(none, "a row that ends just behind the last BOX", g -> {
            for (int n = 0; n < 40; n++) g.box(0, 0, 3 * n, 0, 1, 1);
            g.tape(0, 0, 60);
            for (int n = 0; n < 40; n++) g.item(0, 20 + n, 3 * n);
            due("from 20 on", g.judge(0, 20), -5);
            g.tape(0, 0, 40);
            for (int n = 0; n < 40; n++) g.item(0, n, 3 * n);
            due("from 0 on", g.judge(0, 0), -5);
        });
        String ends = "100 and how many were looked at, if the row ends ahead of that (or the place is below 0, or the TAPE holds nothing).";
        test(ends, "one too few, and none", g -> {
            place(g, 0, 0, 1, 0, 1, 1, 0, 0, 2, 0, 1, 1, 0, 0, 3, 0, 1, 1);
            row(g, 1, 2);
            due("from 0", g.judge(0, 0), 102);
            due("from 1", g.judge(0, 1), 0);
            due("from 2", g.judge(0, 2), 100);
            due("from 3", g.judge(0, 3), 100);
            due("as far as can be", g.judge(0, Integer.MAX_VALUE), 100);
            g.move(0, 2, 0);
            due("then from 1", g.judge(0, 1), 101);
            g.tape(0, 0, 0);
            due("an empty row", g.judge(0, 0), 100);
        });
        test(ends, "39 of 40", g -> {
            for (int n = 0; n < 40; n++) g.box(0, 0, n, 0, 1, 1);
            g.tape(0, 0, 39);
            for (int n = 0; n < 39; n++) g.item(0, n, n);
            due("from 0", g.judge(0, 0), 139);
        });
        test(ends, "otherwise ahead of the end", g -> {
            place(g, 0, 0, 1, 0, 1, 1, 0, 0, 2, 0, 1, 1, 0, 0, 3, 0, 1, 1);
            row(g, 1, 9);
            due("the second", g.judge(0, 0), 1);
        });
        test(ends, "the place below 0, and nothing held", g -> {
            dots(g, 2, 0, 0);
            due("nothing held", g.judge(0, 0), 100);
            due("nothing held, place 7", g.judge(0, 7), 100);
            row(g, 0, 0, 0);
            due("-1", g.judge(0, -1), 100);
            due("as far below as can be", g.judge(0, Integer.MIN_VALUE), 100);
        });
    }

    private static void refusals() {
        test("The host's refusals: NOTHING (-11): nothing is there;", "a TAPE, a BOX", g -> {
            due("item", g.item(0, 0, 0), -11);
            due("shift", g.shift(0, 0, 0, 0, 0), -11);
            due("taken", g.taken(0, 0), -11);
        });
        test("CAST (-12): another sort or KIND;", "a sort, a KIND", g -> {
            g.tape(0, 1, 1);
            g.tape(1, 2, 1);
            g.box(1, 0, 0, 0, 1, 1);
            due("judge", g.judge(0, 0), -12);
            due("shift", g.shift(0, 0, 1, 0, 1), -12);
            due("taken", g.taken(0, 2), -12);
        });
        test("PLACE (-13): no such place;", "ahead of a row and behind it", g -> {
            g.tape(0, 0, 3);
            due("item -1", g.item(0, -1, 0), -13);
            due("item 0", g.item(0, 0, 0), 1);
            due("item 2", g.item(0, 2, 0), 1);
            due("item 3", g.item(0, 3, 0), -13);
        });
        test("SIZE (-14): a size below 0.", "-1, and as far below as can be", g -> {
            due("-1", g.tape(0, 0, -1), -14);
            due("least", g.tape(0, 0, Integer.MIN_VALUE), -14);
            due("0", g.tape(0, 0, 0), 1);
        });
    }

    // ---- Answers

    private static void answers() {
        test("Answers: NONE (-1) no such number (a BOX that is GONE is none);", "one GONE, one that didn't come, one below 0", g -> {
            scene(g);
            int[] none = {4, 5, 40, -2, Integer.MAX_VALUE, Integer.MIN_VALUE};
            for (int b : none) dueNone(g, b);
            // by the number -1 these are emptied
            due("speed", g.speed(-1, 0, 0), -10001);
            due("of", g.of(-1, 0), -1);
            due("far", g.far(-1, 0, 0), -1);
            due("speeds", g.speeds(-1, 0), -1);
        });
        test("BAD (-2) a number is not as told;", "one of each call that says so", g -> {
            scene(g);
            due("box", g.box(0, 0, 0, 0, 33, 1), -2);
            due("room", g.room(10), -2);
            due("feed", g.feed(128), -2);
            due("pass", g.pass(41), -2);
            due("on", g.on(41, 0), -2);
            due("see", g.see(0, 13, 0), -2);
            due("book", g.book(0, 100000), -2);
            due("taken", g.taken(0, 4), -2);
            due("count", g.count(6), -2);
            due("tape", g.tape(0, 5, 0), -2);
        });
        test("STATE (-3) as told;", "one of each call that says so", g -> {
            due("undo", g.undo(), -3);
            scene(g);
            due("box", g.box(0, 0, 127, 0, 2, 1), -3);
            due("move", g.move(0, 121, 0), -3);
            due("first", g.first(0, 3), -3);
            due("speeds", g.speeds(0, 0), -3);
        });
        test("FULL (-4);", "one of each call that says so", g -> {
            dots(g, 40, 0, 0);
            for (int n = 0; n < 5; n++) g.see(0, 0, 0);
            for (int n = 0; n < 10; n++) g.plan(0, 0);
            for (int n = 0; n < 8; n++) g.book(0, 0);
            for (int n = 0; n < 100; n++) g.feed(0);
            due("box", g.box(0, 0, 0, 0, 1, 1), -4);
            due("see", g.see(0, 0, 0), -4);
            due("plan", g.plan(0, 0), -4);
            due("book", g.book(0, 0), -4);
            due("feed", g.feed(0), -4);
        });
        test("the first that a call's words name.", "each two of a call's refusals", g -> {
            scene(g);
            due("box: NONE, BAD", g.box(4, 0, 0, 0, 33, 1), -1);
            due("box: NONE, STATE", g.box(0, 2, 128, 0, 1, 1), -1);
            due("box: BAD, STATE", g.box(0, 0, 128, 0, 1, 0), -2);
            due("speed: NONE, BAD", g.speed(4, 10, 0), -10001);
            due("speed: BAD, STATE", g.speed(0, 0, 10), -10002);
            due("move: NONE, STATE", g.move(4, 128, 0), -1);
            due("on: NONE, BAD", g.on(41, 104), -1);
            due("first: NONE, STATE", g.first(4, 4), -1);
            due("see: NONE, BAD", g.see(4, 13, 128), -1);
            due("speeds: NONE, STATE", g.speeds(0, 2), -1);
            due("book: NONE, BAD", g.book(4, -1), -1);
            due("judge: NONE, CAST", g.judge(6, 0), -1);
            due("judge: CAST, the place", g.judge(1, -1), -12);
            due("taken: BAD, NOTHING", g.taken(4, 4), -2);
            due("tape: NONE, BAD", g.tape(6, 5, 0), -1);
            due("tape: NONE, SIZE", g.tape(-1, 0, -1), -1);
            due("tape: BAD, SIZE", g.tape(0, 5, -1), -2);
            due("item: NONE, PLACE", g.item(6, -1, 0), -1);
            due("item: NOTHING, PLACE", g.item(5, -1, 0), -11);
            due("shift: NONE, NOTHING", g.shift(5, 0, 6, 0, 0), -1);
            due("shift: NONE, PLACE", g.shift(-1, -1, 0, 0, 0), -1);
            due("shift: NOTHING, CAST", g.shift(0, 0, 5, 0, 0), -11);
            due("shift: NOTHING, PLACE", g.shift(5, -1, 5, -1, -1), -11);
            due("shift: CAST, PLACE", g.shift(0, -1, 1, 9, 99), -12);
        });
        test("the first that a call's words name.", "ahead of FULL", g -> {
            dots(g, 40, 0, 0);
            for (int n = 0; n < 5; n++) g.see(0, 0, 0);
            for (int n = 0; n < 10; n++) g.plan(0, 0);
            for (int n = 0; n < 8; n++) g.book(0, 0);
            for (int n = 0; n < 100; n++) g.feed(0);
            due("box: NONE", g.box(4, 0, 0, 0, 1, 1), -1);
            due("box: BAD", g.box(0, 0, 0, 0, 0, 1), -2);
            due("box: STATE", g.box(0, 0, 128, 0, 1, 1), -3);
            due("see: NONE", g.see(40, 0, 0), -1);
            due("see: BAD", g.see(0, 13, 0), -2);
            due("plan: NONE, what", g.plan(4, 0), -1);
            due("plan: NONE, box", g.plan(1, 40), -1);
            due("book: NONE", g.book(40, 0), -1);
            due("book: BAD", g.book(0, -1), -2);
            due("feed: BAD", g.feed(-1), -2);
        });
        test("the first that a call's words name.", "BAD ahead of STATE when TIME is over", g -> {
            for (int n = 0; n < 249; n++) g.pass(40);
            g.pass(39);
            due("BAD", g.pass(41), -2);
            due("STATE", g.pass(40), -3);
        });
        keeps("What is answered so changes nothing;", "one of each refusal", SentencesOfTerms::refusedOnes, -11);
        keeps("what is asked changes nothing.", "one of each call that asks", SentencesOfTerms::askedOnes, 10);
    }

    private static void dueNone(Grid g, int b) {
        due("speed " + b, g.speed(b, 0, 0), -10001);
        due("move " + b, g.move(b, 0, 0), -1);
        due("drop " + b, g.drop(b), -1);
        due("of " + b, g.of(b, 0), -1);
        due("far " + b, g.far(b, 0, 0), -1);
        for (int what = 100; what < 400 && b >= 0 && b < 100; what += 100) due("on " + b, g.on(0, what + b), -1);
        due("first " + b + ", 1", g.first(b, 1), -1);
        due("first 1, " + b, g.first(1, b), -1);
        due("see " + b, g.see(b, 0, 0), -1);
        due("speeds " + b, g.speeds(b, 0), -1);
        due("odds " + b, g.odds(b, 0), NO);
        for (int what = 1; what <= 3; what++) due("plan " + b, g.plan(what, b), -1);
        due("book " + b, g.book(b, 0), -1);
        due("taken " + b, g.taken(b, 0), -11);
    }

    private static long refusedOnes(Grid g) {
        g.box(4, 0, 0, 0, 1, 1);
        g.box(0, 0, 0, 0, 0, 1);
        g.box(0, 0, 128, 0, 1, 1);
        g.speed(4, 1, 1);
        g.speed(1, 10, 1);
        g.speed(1, 1, -10);
        g.speed(0, 1, 1);
        g.move(4, 0, 0);
        g.move(0, 121, 0);
        g.move(0, 0, 121);
        g.drop(4);
        g.room(0);
        g.feed(128);
        g.pass(41);
        g.pass(-1);
        g.see(4, 0, 0);
        g.see(1, 13, 0);
        g.see(1, 0, 128);
        g.plan(4, 0);
        g.plan(1, 4);
        g.book(4, 0);
        g.book(1, -1);
        g.tape(6, 0, 0);
        g.tape(0, 5, 0);
        g.tape(0, 0, 61);
        g.tape(0, 0, -1);
        g.item(0, 5, 1);
        g.item(0, -1, 1);
        g.shift(1, 0, 2, 0, 1);
        g.shift(0, 0, 0, 3, 3);
        g.shift(5, 0, 0, 0, 1);
        return g.item(5, 0, 0);
    }

    private static long askedOnes(Grid g) {
        for (int what = 0; what < 6; what++) {
            g.of(1, what);
            g.of(2, what + 6);
            g.square(what, 0);
            g.cell(1, 0, what);
            g.told(what);
            g.count(what);
        }
        g.far(0, 0, 0);
        g.nearest(0, 0, 0, 1);
        g.window(0, 0, 99, 99);
        g.pair(0);
        g.on(40, 0);
        g.on(40, 301);
        g.first(0, 1);
        g.speeds(2, 0);
        g.odds(1, 0);
        g.mean(0);
        g.ends(0);
        g.ends(1);
        g.looked();
        g.judge(0, 0);
        g.taken(1, 0);
        g.read(0, 0);
        return g.on(40, 100);
    }
}
