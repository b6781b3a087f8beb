/** The sentences of the promises 28 to 36: judging, the image, kinds, counts, tapes. */
final class SentencesOfTapes extends Sentences {
    private static final int MOST = Integer.MAX_VALUE, LEAST = Integer.MIN_VALUE;
    private static final long NO = Long.MIN_VALUE;

    static void all() {
        judge();
        image();
        undo();
        taken();
        count();
        tape();
        item();
        read();
        shift();
    }

    private static void judge() {
        under("Promise 28");
        String judge = "JUDGED from place i of a TAPE on.";
        keeps(judge, "all are so", g -> g.judge(0, 0), -5);
        keeps(judge, "the first isn't", g -> g.judge(0, 1), 0);
        keeps(judge, "place -1", g -> g.judge(0, -1), 100);
        keeps(judge, "place 5", g -> g.judge(0, 5), 100);
        keeps(judge, "as great a place as can be", g -> g.judge(0, MOST), 100);
        keeps(judge, "as small a place as can be", g -> g.judge(0, LEAST), 100);
        keeps(judge, "a TAPE that holds nothing", g -> g.judge(5, 0), 100);
        test(judge, "the last place", g -> {
            dots(g, 1, 77, 0);
            g.tape(5, 0, 60);
            g.item(5, 59, 77);
            due("59", g.judge(5, 59), -5);
            due("58", g.judge(5, 58), 0);
            due("60", g.judge(5, 60), 100);
        });
        for (int none : new int[] {-1, 6, MOST, LEAST}) keeps("NONE: tape;", "tape " + none, g -> g.judge(none, 0), -1);
        for (int sort = 1; sort < 5; sort++) {
            int tape = sort;
            keeps("CAST: it is no row of bytes.", "sort " + sort, g -> g.judge(tape, 0), -12);
        }
        test("CAST: it is no row of bytes.", "also without BOXES, without items, at no such place", g -> {
            g.tape(0, 3, 0);
            due("no BOX came", g.judge(0, 0), -12);
            due("no such place", g.judge(0, -1), -12);
            dots(g, 1, 0, 0);
            due("no items", g.judge(0, 0), -12);
            g.tape(0, -1, 0);
            due("nothing is no other sort", g.judge(0, 0), 100);
        });
    }

    private static void image() {
        under("Promise 29");
        String image = "THE IMAGE is taken: how many BOXES there are (those GONE aren't).";
        test(image, "none, 40, those GONE", g -> {
            due("none", g.image(), 0);
            dots(g, 40, 0, 0);
            due("40", g.image(), 40);
            g.drop(0);
            g.drop(39);
            due("38", g.image(), 38);
            for (int n = 1; n < 39; n++) g.drop(n);
            due("none then", g.image(), 0);
        });
        test(image, "the last one is THE IMAGE", g -> {
            dots(g, 1, 0, 0);
            g.image();
            g.move(0, 5, 5);
            g.image();
            g.move(0, 9, 9);
            due("undo", g.undo(), 1);
            dueOf(g, 0, 2, 5, 5);
        });
        test(image, "all goes on as it was", g -> {
            scene(g);
            due("image", g.image(), 4);
            Grid without = fresh();
            scene(without);
            for (int n = 0; n < 5; n++) {
                for (int what = 0; what < 12; what++) due("of " + n + " " + what, g.of(n, what), without.of(n, what));
            }
            for (int what = 0; what < 6; what++) {
                due("count " + what, g.count(what), without.count(what));
                due("told " + what, g.told(what), without.told(what));
            }
            due("read", g.read(0, 2), 54);
        });
    }

    private static void undo() {
        under("Promise 30");
        String undo = "All is as THE IMAGE: how many BOXES.";
        test(undo, "none, and again", g -> {
            due("image", g.image(), 0);
            dots(g, 40, 0, 0);
            due("undo", g.undo(), 0);
            due("again", g.undo(), 0);
            due("came", g.count(0), 0);
            due("box", g.box(0, 0, 0, 0, 1, 1), 0);
        });
        test(undo, "those that came behind it are no more", g -> {
            g.image();
            place(g, 1, 0, 5, 5, 4, 4, 1, 1, 5, 5, 4, 4);
            g.undo();
            due("x of 0", g.of(0, 2), -1);
            due("there", g.count(1), 0);
            due("PAIRS", g.told(3), 0);
            due("CELLS", g.told(4), 0);
            due("in THE PLANE", g.square(0, 0), 0);
            due("whole in THE PLANE", g.square(0, 1), 0);
            due("the least number in it", g.square(0, 3), -5);
            due("cell", g.cell(0, 0, 1), -5);
            due("nearest", g.nearest(5, 5, 0, 0), -5);
            due("window", g.window(0, 0, 128, 128), 0);
            due("pair", g.pair(0), -5);
            due("mean", g.mean(0), NO);
            due("judge", g.judge(0, 0), -5);
            due("on", g.on(1, 100), -1);
            due("PAIRS at the end", g.ends(0), 0);
            due("taken", g.taken(0, 0), -11);
            due("image", g.image(), 0);
            due("box", g.box(0, 0, 0, 0, 1, 1), 0);
            due("PAIRS then", g.told(3), 0);
        });
        test(undo, "40; those GONE aren't counted", g -> {
            dots(g, 40, 0, 0);
            g.drop(7);
            g.image();
            g.drop(8);
            due("undo", g.undo(), 39);
            due("GONE ahead of it", g.of(7, 2), -1);
            due("GONE behind it", g.of(8, 2), 0);
            due("one more", g.box(0, 0, 0, 0, 1, 1), -4);
        });
        test(undo, "often, from the same image", g -> {
            place(g, 2, 0, 3, 0, 1, 1);
            g.speed(0, -9, 1);
            g.image();
            for (int n = 0; n < 5; n++) {
                g.pass(n + 1);
                due("undo", g.undo(), 1);
                dueOf(g, 0, 2, 3, 0, 1, 1, 41, 51);
                due("TIME", g.told(0), 0);
            }
        });
        test("STATE: there is none.", "of a new object, and of one that did much", g -> {
            due("new", g.undo(), -3);
            dots(g, 3, 5, 5);
            g.pass(4);
            due("later", g.undo(), -3);
            due("there", g.count(1), 3);
            due("TIME", g.told(0), 4);
            g.image();
            due("then", g.undo(), 3);
        });
    }

    private static void taken() {
        under("Promise 31");
        String taken = "A BOX taken for one of KIND k (0 .. 3), or one under that: its KIND.";
        String[] are = {"0---", "11--", "222-", "33-3"};
        for (int b = 0; b < 4; b++) {
            int box = b;
            for (int n = 0; n < 4; n++) {
                int k = n;
                boolean is = are[box].charAt(k) != '-';
                keeps(is ? taken : "CAST.", "KIND " + box + " for " + k, g -> g.taken(box, k), is ? box : -12);
            }
        }
        for (int wrong : new int[] {-1, 4, MOST, LEAST}) keeps("BAD: k;", "k " + wrong, g -> g.taken(0, wrong), -2);
        for (int none : new int[] {4, 5, 40, -1, MOST, LEAST}) {
            keeps("NOTHING: no such BOX;", "box " + none, g -> g.taken(none, 0), -11);
        }
    }

    private static void count() {
        under("Promise 32");
        String count = "How many: 0 BOXES that came, 1 that are there, 2 SEEN, 3 of the PLAN, 4 of the BOOK, 5 bytes of THE TEXT.";
        int[] scene = {5, 4, 2, 2, 3, 9};
        for (int w = 0; w < 6; w++) {
            int what = w;
            keeps(count, "what " + what, g -> g.count(what), scene[what]);
        }
        test(count, "the least and the greatest", g -> {
            for (int what = 0; what < 6; what++) due("least of " + what, g.count(what), 0);
            dots(g, 40, 0, 0);
            for (int n = 0; n < 5; n++) g.see(0, 0, 0);
            for (int n = 0; n < 10; n++) g.plan(0, 0);
            for (int n = 0; n < 8; n++) g.book(0, 0);
            for (int n = 0; n < 100; n++) g.feed(0);
            int[] most = {40, 40, 5, 10, 8, 100};
            for (int what = 0; what < 6; what++) due("greatest of " + what, g.count(what), most[what]);
            for (int n = 0; n < 40; n++) g.drop(n);
            due("came", g.count(0), 40);
            due("there", g.count(1), 0);
            due("SEEN of one GONE", g.count(2), 5);
            due("BOOK of one GONE", g.count(4), 8);
        });
        for (int wrong : new int[] {-1, 6, MOST, LEAST}) keeps("BAD.", "what " + wrong, g -> g.count(wrong), -2);
    }

    private static void tape() {
        under("Promise 33");
        String tape = "A TAPE becomes a row of n (0 .. 60) of a sort, all 0, or holds nothing (sort -1: n does not matter): 1.";
        test(tape, "n 0", g -> {
            for (int sort = 0; sort < 5; sort++) {
                due("sort " + sort, g.tape(0, sort, 0), 1);
                due("something is there", g.item(0, 0, 1), -13);
                due("no item", g.read(0, 0), NO);
                due("none of it comes", g.shift(0, 0, 0, 0, 0), 0);
            }
        });
        test(tape, "n 60, all 0 each time", g -> {
            for (int sort = 0; sort < 5; sort++) {
                due("sort " + sort, g.tape(5, sort, 60), 1);
                due("the last", g.item(5, 59, 1), 1);
                due("behind it", g.item(5, 60, 1), -13);
                due("the first", g.item(5, 0, 1), 1);
                due("the same again", g.tape(5, sort, 60), 1);
                due("the first is 0", g.read(5, 0), 0);
                due("the last is 0", g.read(5, 59), 0);
                g.item(5, 59, 1);
            }
            g.tape(5, 0, 1);
            g.tape(5, 0, 60);
            due("0 also behind a shorter one", g.read(5, 59), 0);
        });
        test(tape, "sort -1: n does not matter", g -> {
            for (int n : new int[] {0, 7, 61, -1, MOST, LEAST}) {
                g.tape(3, 2, 4);
                due("n " + n, g.tape(3, -1, n), 1);
                due("nothing is there", g.item(3, 0, 0), -11);
                due("no item", g.read(3, 0), NO);
            }
            due("nothing, again", g.tape(3, -1, 0), 1);
            due("another is as it was", g.item(2, 0, 0), -11);
        });
        for (int none : new int[] {-1, 6, MOST, LEAST}) {
            keeps("NONE: tape;", "tape " + none, g -> g.tape(none, 0, 1), -1);
            keeps("NONE: tape;", "tape " + none + ", to hold nothing", g -> g.tape(none, -1, 1), -1);
        }
        String bad = "BAD: sort, n above 60;";
        for (int wrong : new int[] {-2, 5, MOST, LEAST}) keeps(bad, "sort " + wrong, g -> g.tape(0, wrong, 1), -2);
        for (int wrong : new int[] {61, MOST}) keeps(bad, "n " + wrong, g -> g.tape(0, 0, wrong), -2);
        for (int wrong : new int[] {-1, LEAST}) keeps("SIZE.", "n " + wrong, g -> g.tape(0, 0, wrong), -14);
    }

    private static void item() {
        under("Promise 34");
        String item = "Item i of a TAPE becomes v (its lowest bits, as many as an item has; booleans: whether v is not 0): 1.";
        long[] vs = {0, 1, -1, 127, 128, 255, 256, 32767, 32768, 65535, 65536, 2147483647L, 2147483648L, 4294967295L, 4294967296L,
            Long.MAX_VALUE, Long.MIN_VALUE, 0x89ABCDEF0123F0F5L};
        test(item, "its lowest bits", g -> {
            for (int sort = 0; sort < 5; sort++) g.tape(sort, sort, 3);
            for (long v : vs) {
                long[] due = {(byte) v, (short) v, (int) v, v, v == 0 ? 0 : 1};
                for (int sort = 0; sort < 5; sort++) {
                    due("item of " + sort, g.item(sort, 1, v), 1);
                    due(v + " in " + sort, g.read(sort, 1), due[sort]);
                }
            }
            for (int sort = 0; sort < 5; sort++) {
                due("ahead of it", g.read(sort, 0), 0);
                due("behind it", g.read(sort, 2), 0);
            }
        });
        test(item, "told by numbers", g -> {
            g.tape(0, 0, 1);
            g.item(0, 0, 200);
            due("200 in bytes", g.read(0, 0), -56);
            g.tape(0, 1, 1);
            g.item(0, 0, 70000);
            due("70000 in shorts", g.read(0, 0), 4464);
            g.tape(0, 2, 1);
            g.item(0, 0, 9999999999L);
            due("9999999999 in ints", g.read(0, 0), 1410065407);
        });
        for (int none : new int[] {-1, 6, MOST, LEAST}) keeps("NONE;", "tape " + none, g -> g.item(none, 0, 7), -1);
        keeps("NOTHING;", "a TAPE that holds nothing", g -> g.item(5, 0, 7), -11);
        for (int sort = 0; sort < 5; sort++) {
            int tape = sort;
            for (int wrong : new int[] {-1, 5, MOST, LEAST}) {
                keeps("PLACE.", "place " + wrong + " of sort " + sort, g -> g.item(tape, wrong, 7), -13);
            }
        }
    }

    private static void read() {
        under("Promise 35");
        long[] due = {54, -300, -300, -300, 1};
        for (int sort = 0; sort < 5; sort++) {
            int tape = sort;
            keeps("Item i of a TAPE.", "of sort " + sort, g -> g.read(tape, 2), due[sort]);
            keeps("Item i of a TAPE.", "the first of sort " + sort, g -> g.read(tape, 0), tape == 0 ? 10 : 0);
            keeps("Item i of a TAPE.", "the last of sort " + sort, g -> g.read(tape, 4), tape == 0 ? -1 : 0);
        }
        String no = "NO: no such TAPE, nothing there, no such place.";
        for (int none : new int[] {-1, 6, MOST, LEAST}) keeps(no, "tape " + none, g -> g.read(none, 0), NO);
        keeps(no, "nothing there", g -> g.read(5, 0), NO);
        for (int wrong : new int[] {-1, 5, 60, MOST, LEAST}) keeps(no, "place " + wrong, g -> g.read(0, wrong), NO);
        test(no, "a row of none, one that was longer", g -> {
            g.tape(0, 3, 2);
            g.item(0, 1, 5);
            g.tape(0, 3, 1);
            due("place 1", g.read(0, 1), NO);
            g.tape(0, 3, 0);
            due("place 0", g.read(0, 0), NO);
        });
    }

    private static void dueRow(Grid g, int tape, long... want) {
        for (int i = 0; i < want.length; i++) due("read(" + tape + ", " + i + ")", g.read(tape, i), want[i]);
    }

    private static void rows(Grid g) {
        for (int tape = 0; tape < 2; tape++) {
            g.tape(tape, 2, 5);
            for (int i = 0; i < 5; i++) g.item(tape, i, 10 * tape + i + 1);
        }
    }

    private static void shift() {
        under("Promise 36");
        String shift = "n items of a TAPE from i on come to another one (or the same) from j on, as they all were before: n.";
        test(shift, "to another one", g -> {
            rows(g);
            due("two", g.shift(0, 3, 1, 0, 2), 2);
            dueRow(g, 0, 1, 2, 3, 4, 5);
            dueRow(g, 1, 4, 5, 13, 14, 15);
            due("all", g.shift(0, 0, 1, 0, 5), 5);
            dueRow(g, 1, 1, 2, 3, 4, 5);
        });
        test(shift, "to the same, upwards, as they were before", g -> {
            rows(g);
            due("four", g.shift(0, 0, 0, 1, 4), 4);
            dueRow(g, 0, 1, 1, 2, 3, 4);
        });
        test(shift, "to the same, downwards, as they were before", g -> {
            rows(g);
            due("four", g.shift(0, 1, 0, 0, 4), 4);
            dueRow(g, 0, 2, 3, 4, 5, 5);
            due("where they are", g.shift(0, 0, 0, 0, 5), 5);
            dueRow(g, 0, 2, 3, 4, 5, 5);
        });
        test(shift, "of each sort; 60 of them", g -> {
            for (int sort = 0; sort < 5; sort++) {
                g.tape(0, sort, 60);
                g.tape(1, sort, 60);
                g.item(0, 0, -1);
                g.item(0, 59, -1);
                due("60", g.shift(0, 0, 1, 0, 60), 60);
                dueRow(g, 1, sort == 4 ? 1 : -1, 0);
                due("the last", g.read(1, 59), sort == 4 ? 1 : -1);
            }
        });
        test(shift, "none, up to both ends", g -> {
            rows(g);
            due("at the beginning", g.shift(0, 0, 1, 0, 0), 0);
            due("at both ends", g.shift(0, 5, 1, 5, 0), 0);
            dueRow(g, 1, 11, 12, 13, 14, 15);
            g.tape(2, 2, 0);
            due("of a row of none", g.shift(2, 0, 0, 0, 0), 0);
            due("to a row of none", g.shift(0, 0, 2, 0, 0), 0);
        });
        for (int none : new int[] {-1, 6, MOST, LEAST}) {
            keeps("NONE: tapes;", "tape " + none, g -> g.shift(none, 0, 0, 0, 1), -1);
            keeps("NONE: tapes;", "other " + none, g -> g.shift(0, 0, none, 0, 1), -1);
        }
        keeps("NOTHING;", "here", g -> g.shift(5, 0, 0, 0, 1), -11);
        keeps("NOTHING;", "there", g -> g.shift(0, 0, 5, 0, 1), -11);
        keeps("NOTHING;", "none of it", g -> g.shift(5, 0, 5, 0, 0), -11);
        for (int sort = 1; sort < 5; sort++) {
            int other = sort;
            keeps("CAST: of unlike sorts;", "0 to " + sort, g -> g.shift(0, 0, other, 0, 1), -12);
            keeps("CAST: of unlike sorts;", sort + " to 0, none of it", g -> g.shift(other, 0, 0, 0, 0), -12);
        }
        String place = "PLACE: n, i or j is below 0, or beyond either's end.";
        int[][] wrong = {{0, 0, -1}, {-1, 0, 1}, {0, -1, 1}, {5, 0, 1}, {0, 5, 1}, {4, 0, 2}, {0, 4, 2}, {0, 0, 6}, {6, 0, 0},
            {0, 6, 0}, {5, 5, -1}, {-1, 0, 0}, {0, -1, 0}, {-1, -1, 5}, {1, 0, MOST}, {0, 1, MOST}, {MOST, 0, 1}, {0, MOST, 1},
            {MOST, MOST, MOST}, {LEAST, 0, 1}, {0, LEAST, 1}, {0, 0, LEAST}, {MOST, MOST, 0}};
        for (int[] row : wrong) {
            keeps(place, row[0] + ", " + row[1] + ", " + row[2], g -> g.shift(0, row[0], 0, row[1], row[2]), -13);
        }
        test(place, "beyond the end of the shorter one alone", g -> {
            g.tape(0, 3, 5);
            g.tape(1, 3, 3);
            due("to it, up to its end", g.shift(0, 0, 1, 0, 3), 3);
            due("to it", g.shift(0, 0, 1, 0, 4), -13);
            due("from it, up to its end", g.shift(1, 0, 0, 2, 3), 3);
            due("from it", g.shift(1, 0, 0, 0, 4), -13);
            due("from it, further on", g.shift(1, 3, 0, 0, 1), -13);
            due("to it, further on", g.shift(0, 0, 1, 3, 1), -13);
        });
    }
}
