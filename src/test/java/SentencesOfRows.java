/** The sentences of the promises 20 to 27: what is seen, odds, plans, books. */
final class SentencesOfRows extends Sentences {
    private static final int MOST = Integer.MAX_VALUE, LEAST = Integer.MIN_VALUE;
    private static final long NO = Long.MIN_VALUE;

    static void all() {
        see();
        speeds();
        odds();
        mean();
        plan();
        ends();
        book();
        looked();
    }

    private static void see() {
        under("Promise 20");
        String see = "What is SEEN comes: how many there are (box -1: none then, 0, whatever the rest is).";
        test(see, "1 .. 5", g -> {
            dots(g, 1, 0, 0);
            int[] ns = {0, 12, 0, 12, 6}, xs = {0, 127, 127, 0, 64};
            for (int n = 0; n < 5; n++) {
                due("row " + n, g.see(0, ns[n], xs[n]), n + 1);
                due("count", g.count(2), n + 1);
            }
        });
        test(see, "box -1, whatever the rest is", g -> {
            place(g, 1, 0, 0, 0, 1, 1);
            due("of none", g.see(-1, 0, 0), 0);
            int[][] rests = {{0, 0}, {-1, -1}, {13, 128}, {MOST, MOST}, {LEAST, LEAST}};
            for (int[] rest : rests) {
                for (int n = 1; n <= 5; n++) g.see(0, 0, 99);
                due("5 rows", g.speeds(0, 0), 0);
                due("none then", g.see(-1, rest[0], rest[1]), 0);
                due("count", g.count(2), 0);
                due("no row", g.speeds(0, 0), 19);
            }
            due("the next", g.see(0, 0, 0), 1);
        });
        for (int none : new int[] {4, 5, 40, -2, MOST, LEAST}) keeps("NONE;", "box " + none, g -> g.see(none, 0, 0), -1);
        for (int wrong : new int[] {-1, 13, MOST, LEAST}) {
            keeps("BAD: n, x (0 .. 127);", "n " + wrong, g -> g.see(1, wrong, 0), -2);
        }
        for (int wrong : new int[] {-1, 128, MOST, LEAST}) {
            keeps("BAD: n, x (0 .. 127);", "x " + wrong, g -> g.see(1, 0, wrong), -2);
        }
        keeps("FULL: 5.", "one more", g -> {
            scene(g);
            for (int n = 0; n < 3; n++) g.see(2, 0, 54);
        }, g -> g.see(2, 1, 0), -4);
    }

    private static void speeds() {
        under("Promise 21");
        String speeds = "SPEEDS: what 0 how many, 1 the least; -99.";
        keeps(speeds, "how many", g -> g.speeds(2, 0), 1);
        keeps(speeds, "the least", g -> g.speeds(2, 1), -3);
        keeps(speeds, "of another BOX than those seen", g -> g.speeds(1, 0), 19);
        keeps(speeds, "the least of all", g -> g.speeds(3, 1), -9);
        test(speeds, "none", g -> {
            place(g, 1, 0, 64, 0, 1, 1);
            g.see(0, 1, 74);
            due("how many", g.speeds(0, 0), 0);
            due("the least", g.speeds(0, 1), -99);
            due("VX as it was", g.of(0, 6), 50);
        });
        for (int none : new int[] {4, 5, 40, -1, MOST, LEAST}) keeps("NONE;", "box " + none, g -> g.speeds(none, 0), -1);
        for (int none : new int[] {-1, 2, MOST, LEAST}) keeps("NONE;", "what " + none, g -> g.speeds(2, none), -1);
        keeps("STATE: it is of KIND 0.", "how many", g -> g.speeds(0, 0), -3);
        keeps("STATE: it is of KIND 0.", "the least", g -> g.speeds(0, 1), -3);
    }

    private static void odds() {
        under("Promise 22");
        String odds = "ODDS; part 0 above, 1 below the line.";
        test(odds, "0 by 1, 1 by 1, 1 by 64, 63 by 64", g -> {
            place(g, 0, 0, 120, 120, 1, 1);
            due("above, alone", g.odds(0, 0), 1);
            due("below, alone", g.odds(0, 1), 1);
            place(g, 0, 1, 0, 0, 1, 1);
            g.move(1, 120, 120);
            due("above, never", g.odds(1, 0), 0);
            due("below, never", g.odds(1, 1), 1);
            // just nearer to 8, 8 than to the points at 24
            g.move(0, 0, 0);
            g.move(1, 24, 24);
            due("above, once", g.odds(0, 0), 1);
            due("below, once", g.odds(0, 1), 64);
            g.move(1, 17, 17);
            due("above", g.odds(0, 0), 1);
            due("below", g.odds(0, 1), 64);
            due("above, the other", g.odds(1, 0), 63);
            due("below, the other", g.odds(1, 1), 64);
        });
        keeps(odds, "on the scene, above", g -> g.odds(0, 0), 3);
        keeps(odds, "on the scene, below", g -> g.odds(0, 1), 32);
        for (int none : new int[] {4, 5, 40, -1, MOST, LEAST}) keeps("NO: box, part.", "box " + none, g -> g.odds(none, 0), NO);
        for (int wrong : new int[] {-1, 2, MOST, LEAST}) keeps("NO: box, part.", "part " + wrong, g -> g.odds(0, wrong), NO);
    }

    private static void mean() {
        under("Promise 23");
        keeps("MEAN; part likewise.", "above", g -> g.mean(0), 51);
        keeps("MEAN; part likewise.", "below", g -> g.mean(1), 1);
        test("MEAN; part likewise.", "the least and the greatest below the line", g -> {
            dots(g, 39, 0, 0);
            due("above", g.mean(0), 1);
            due("below", g.mean(1), 1);
            g.box(0, 0, 0, 0, 2, 1);
            due("above", g.mean(0), 41);
            due("below", g.mean(1), 40);
        });
        for (int wrong : new int[] {-1, 2, MOST, LEAST}) keeps("NO.", "part " + wrong, g -> g.mean(wrong), NO);
        test("NO.", "there are none", g -> {
            due("above", g.mean(0), NO);
            due("below", g.mean(1), NO);
            dots(g, 1, 0, 0);
            g.drop(0);
            due("above, GONE", g.mean(0), NO);
            due("below, GONE", g.mean(1), NO);
        });
    }

    private static void plan() {
        under("Promise 24");
        String plan = "A row comes to the PLAN: how many there are (what -1: it is empty then, 0, whatever the rest is).";
        test(plan, "1 .. 10", g -> {
            dots(g, 2, 0, 0);
            for (int n = 0; n < 10; n++) {
                due("row " + n, g.plan(n % 4, n % 2), n + 1);
                due("count", g.count(3), n + 1);
            }
        });
        test(plan, "what -1, whatever the rest is", g -> {
            place(g, 0, 0, 0, 0, 1, 1, 0, 1, 0, 0, 1, 1);
            due("of none", g.plan(-1, 0), 0);
            for (int rest : new int[] {0, -1, 2, 40, MOST, LEAST}) {
                for (int n = 0; n < 10; n++) g.plan(1, 1);
                due("10 rows", g.ends(0), 0);
                due("empty then", g.plan(-1, rest), 0);
                due("count", g.count(3), 0);
                due("no row", g.ends(0), 1);
            }
            due("the next", g.plan(3, 0), 1);
        });
        String none = "NONE: what (0 .. 3), box (by 0 n does not matter);";
        for (int wrong : new int[] {-2, 4, MOST, LEAST}) keeps(none, "what " + wrong, g -> g.plan(wrong, 0), -1);
        for (int what = 1; what <= 3; what++) {
            int row = what;
            for (int wrong : new int[] {4, 5, 40, -1, MOST, LEAST}) {
                keeps(none, "box " + wrong + " by what " + row, g -> g.plan(row, wrong), -1);
            }
        }
        test(none, "by 0 n does not matter", g -> {
            place(g, 1, 0, 0, 0, 1, 1, 0, 1, 5, 0, 1, 1);
            g.speed(0, 1, 0);
            int[] ns = {-1, 2, 40, MOST, LEAST};
            for (int n = 0; n < 5; n++) due("n " + ns[n], g.plan(0, ns[n]), n + 1);
            due("5 STEPS", g.ends(0), 1);
        });
        keeps("FULL: 10.", "one more", g -> {
            scene(g);
            for (int n = 2; n < 10; n++) g.plan(0, 0);
        }, g -> g.plan(1, 1), -4);
    }

    private static void ends() {
        under("Promise 25");
        keeps("ENDS: what 0 PAIRS, 1 SQUARES.", "PAIRS", g -> g.ends(0), 1);
        keeps("ENDS: what 0 PAIRS, 1 SQUARES.", "SQUARES", g -> g.ends(1), 5);
        test("ENDS: what 0 PAIRS, 1 SQUARES.", "of an empty PLAN, of one that leaves none", g -> {
            due("PAIRS of none", g.ends(0), 0);
            due("SQUARES of none", g.ends(1), 1);
            for (int n = 0; n < 4; n++) place(g, 0, n % 2, 0, 0, 1, 1);
            due("PAIRS now", g.ends(0), 4);
            due("SQUARES now", g.ends(1), 21);
            for (int n = 0; n < 4; n++) g.plan(1, n);
            due("PAIRS of those GONE", g.ends(0), 0);
            due("SQUARES of those GONE", g.ends(1), 1);
            due("there", g.count(1), 4);
        });
        test("ENDS: what 0 PAIRS, 1 SQUARES.", "SQUARES by ROOM", g -> {
            place(g, 0, 0, 0, 0, 1, 1, 0, 0, 127, 0, 1, 1, 0, 0, 0, 127, 1, 1, 0, 0, 127, 127, 1, 1);
            int[] due = {5, 5, 5, 1, 1, 1, 1, 1, 1};
            for (int room = 1; room <= 9; room++) {
                g.room(room);
                due("ROOM " + room, g.ends(1), due[room - 1]);
            }
        });
        test("ENDS: what 0 PAIRS, 1 SQUARES.", "where TIME is over, too", g -> {
            for (int n = 0; n < 249; n++) g.pass(40);
            g.pass(39);
            place(g, 1, 0, 0, 0, 1, 1, 0, 1, 1, 0, 1, 1);
            g.speed(0, 1, 0);
            g.plan(0, 0);
            due("PAIRS", g.ends(0), 1);
            due("TIME", g.told(0), 9999);
        });
        for (int wrong : new int[] {-1, 2, MOST, LEAST}) keeps("NONE.", "what " + wrong, g -> g.ends(wrong), -1);
        String gone = "(A row with a BOX that is GONE does nothing; by 2 one of KIND 0 stays.)";
        test(gone, "GONE by a row ahead, by each what", g -> {
            place(g, 0, 0, 0, 0, 1, 1, 0, 1, 0, 0, 1, 1, 0, 1, 0, 0, 1, 1);
            g.plan(1, 2);
            for (int what = 1; what <= 3; what++) {
                g.plan(what, 2);
                due("PAIRS by " + what, g.ends(0), 1);
                due("SQUARES by " + what, g.ends(1), 1);
            }
        });
        test(gone, "GONE since it was told", g -> {
            place(g, 1, 0, 0, 0, 1, 1, 0, 1, 0, 0, 1, 1, 0, 0, 0, 0, 1, 1);
            g.plan(3, 2);
            g.plan(2, 2);
            g.plan(1, 2);
            due("PAIRS", g.ends(0), 1);
            g.drop(2);
            due("PAIRS then", g.ends(0), 1);
            g.drop(1);
            due("PAIRS at last", g.ends(0), 0);
            due("rows", g.count(3), 3);
        });
        test(gone, "nothing, and the rows behind it go on", g -> {
            place(g, 0, 0, 0, 0, 1, 1, 1, 0, 0, 0, 1, 1, 0, 1, 5, 0, 1, 1);
            g.speed(1, 5, 0);
            for (int what = 1; what <= 3; what++) g.plan(what, 0);
            g.plan(0, 0);
            due("PAIRS", g.ends(0), 1);
            g.drop(0);
            due("PAIRS then", g.ends(0), 1);
            g.plan(1, 2);
            due("PAIRS at last", g.ends(0), 0);
        });
        test(gone, "by 2 one of KIND 0 stays", g -> {
            place(g, 0, 0, 5, 5, 1, 1, 0, 1, 5, 5, 1, 1);
            g.plan(2, 0);
            g.plan(0, 0);
            g.plan(2, 0);
            g.plan(0, 0);
            due("PAIRS", g.ends(0), 1);
            due("SQUARES", g.ends(1), 1);
        });
    }

    private static void book() {
        under("Promise 26");
        String book = "A row comes to the BOOK: how many there are (box -1: it is empty then, 0, whatever the rest is).";
        test(book, "1 .. 8", g -> {
            dots(g, 1, 0, 0);
            for (int n = 0; n < 8; n++) {
                due("row " + n, g.book(0, n % 2 == 0 ? 0 : 99999), n + 1);
                due("count", g.count(4), n + 1);
            }
        });
        test(book, "box -1, whatever the rest is", g -> {
            dots(g, 1, 0, 0);
            due("of none", g.book(-1, 0), 0);
            for (int rest : new int[] {0, -1, 100000, MOST, LEAST}) {
                for (int n = 0; n < 8; n++) g.book(0, 1);
                due("8 rows", g.looked(), 0);
                due("empty then", g.book(-1, rest), 0);
                due("count", g.count(4), 0);
                due("no row", g.looked(), -5);
            }
            due("the next", g.book(0, 0), 1);
        });
        for (int none : new int[] {4, 5, 40, -2, MOST, LEAST}) keeps("NONE;", "box " + none, g -> g.book(none, 0), -1);
        for (int wrong : new int[] {-1, 100000, MOST, LEAST}) keeps("BAD: path;", "path " + wrong, g -> g.book(0, wrong), -2);
        keeps("FULL: 8.", "one more", g -> {
            scene(g);
            for (int n = 3; n < 8; n++) g.book(0, 1);
        }, g -> g.book(0, 1), -4);
    }

    private static void looked() {
        under("Promise 27");
        keeps("LOOKED at; -5.", "the third", g -> g.looked(), 2);
        keeps("LOOKED at; -5.", "no rows", g -> {
            scene(g);
            g.book(-1, 0);
        }, g -> g.looked(), -5);
        test("LOOKED at; -5.", "all 8 are so; the last isn't", g -> {
            dots(g, 4, 127, 127);
            for (int n = 0; n < 8; n++) g.book(n % 4, 44444);
            due("all", g.looked(), -5);
            g.move(3, 0, 127);
            due("joined", g.looked(), 0);
            g.book(-1, 0);
            for (int n = 0; n < 8; n++) g.book(n % 4, n % 4 == 3 ? 3 : 4);
            due("all then", g.looked(), -5);
            g.drop(3);
            due("one GONE", g.looked(), 0);
        });
    }
}
