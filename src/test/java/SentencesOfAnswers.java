/** The sentences of the third part of "Terms": tapes, what is judged, the host's refusals; and of "Answers" behind them. */
final class SentencesOfAnswers extends Sentences {
    private static final long NO = Long.MIN_VALUE;

    static void all() {
        under("Terms");
        tapes();
        judged();
        refusals();
        answers();
    }

    // ---- TAPES

    private static void tapes() {
        String tapes = "TAPES 0 .. 5 hold nothing (at first), or a row of 0 bytes, 1 shorts, 2 ints, 3 longs, "
                + "4 booleans (items 0, 1).";
        test(tapes, "nothing at first, and none beside them", g -> {
            for (int tape = 0; tape < 6; tape++) due("TAPE " + tape, g.item(tape, 0, 0), -11);
            due("TAPE 6", g.item(6, 0, 0), -1);
            due("TAPE -1", g.item(-1, 0, 0), -1);
        });
        test(tapes, "the least and the greatest of each sort, and one beyond", g -> {
            long[] most = {127, 32767, 2147483647L, Long.MAX_VALUE};
            for (int sort = 0; sort < 4; sort++) {
                g.tape(sort, sort, 2);
                g.item(sort, 0, most[sort]);
                g.item(sort, 1, -most[sort] - 1);
                due("the greatest of " + sort, g.read(sort, 0), most[sort]);
                due("the least of " + sort, g.read(sort, 1), -most[sort] - 1);
                g.item(sort, 0, most[sort] + 1);
                g.item(sort, 1, -most[sort] - 2);
                due("one above it of " + sort, g.read(sort, 0), -most[sort] - 1);
                due("one below it of " + sort, g.read(sort, 1), most[sort]);
            }
        });
        test(tapes, "booleans are 0 or 1", g -> {
            g.tape(0, 4, 1);
            long[] vs = {1, 2, -1, 256, 1L << 32, Long.MIN_VALUE};
            for (long v : vs) {
                g.item(0, 0, v);
                due("by " + v, g.read(0, 0), 1);
                g.item(0, 0, 0);
                due("by 0", g.read(0, 0), 0);
            }
        });
        test(tapes, "each sort is another", g -> {
            for (int sort = 0; sort < 5; sort++) g.tape(sort, sort, 1);
            for (int a = 0; a < 5; a++) {
                for (int b = 0; b < 5; b++) due(a + " to " + b, g.shift(a, 0, b, 0, 1), a == b ? 1 : -12);
            }
        });
    }

    /** A row of bytes on TAPE 0. */
    private static void row(Grid g, int... items) {
        g.tape(0, 0, items.length);
        for (int i = 0; i < items.length; i++) g.item(0, i, items[i]);
    }

    private static void judged() {
        test("x of BOXES told by a row of bytes (-1: GONE), from a place on, BOX by BOX, are JUDGED:", "GONE, and from places on", g -> {
            place(g, 0, 0, 0, 5, 1, 1, 0, 0, 127, 5, 1, 1, 0, 0, 64, 5, 1, 1);
            row(g, 0, 127, 64, 0, -1, 64);
            due("from 0", g.judge(0, 0), -5);
            due("from 3", g.judge(0, 3), 1);
            g.drop(1);
            due("from 0 then", g.judge(0, 0), 1);
            due("from 3 then", g.judge(0, 3), -5);
        });
        test("x of BOXES told by a row of bytes (-1: GONE), from a place on, BOX by BOX, are JUDGED:", "GONE isn't x that was", g -> {
            dots(g, 1, 3, 0);
            row(g, 3, -1);
            g.drop(0);
            due("x that was", g.judge(0, 0), 0);
            due("-1", g.judge(0, 1), -5);
        });
        test("the first that is otherwise (counted from 0 from that place on);", "of two, and the last", g -> {
            place(g, 0, 0, 1, 0, 1, 1, 0, 0, 2, 0, 1, 1, 0, 0, 3, 0, 1, 1);
            row(g, 9, 1, 9, 9, 1, 2, 9);
            due("from 1", g.judge(0, 1), 1);
            due("from 4", g.judge(0, 4), 2);
            due("from 0", g.judge(0, 0), 0);
        });
        String none = "-5: none, or no BOX came (wherever the place is, also if the TAPE holds nothing);";
        test(none, "no BOX came", g -> {
            int[] places = {0, 1, 5, -1, Integer.MAX_VALUE, Integer.MIN_VALUE};
            for (int i : places) due("nothing held, place " + i, g.judge(0, i), -5);
            g.tape(0, 0, 0);
            for (int i : places) due("an empty row, place " + i, g.judge(0, i), -5);
            g.tape(0, 0, 3);
            for (int i : places) due("a row of 3, place " + i, g.judge(0, i), -5);
        });
        test(none, "a BOX that is GONE came", g -> {
            dots(g, 1, 0, 0);
            g.drop(0);
            due("nothing held", g.judge(0, 0), 100);
            row(g, 0, -1);
            due("otherwise", g.judge(0, 0), 0);
            due("so", g.judge(0, 1), -5);
        });
        test(none, "a row that ends just behind the last BOX", g -> {
            for (int n = 0; n < 40; n++) g.box(0, 0, 3 * n, 0, 1, 1);
            g.tape(0, 0, 60);
            for (int n = 0; n < 40; n++) g.item(0, 20 + n, 3 * n);
            due("from 20 on", g.judge(0, 20), -5);
            g.tape(0, 0, 40);
            for (int n = 0; n < 40; n++) g.item(0, n, 3 * n);
            due("from 0 on", g.judge(0, 0), -5);
        });
        String ends = "100 and how many were looked at, if the row ends ahead of that (or the place is below 0, or the TAPE holds nothing).";
        test(ends, "one too few, and none", g -> {
            place(g, 0, 0, 1, 0, 1, 1, 0, 0, 2, 0, 1, 1, 0, 0, 3, 0, 1, 1);
            row(g, 1, 2);
            due("from 0", g.judge(0, 0), 102);
            due("from 1", g.judge(0, 1), 0);
            due("from 2", g.judge(0, 2), 100);
            due("from 3", g.judge(0, 3), 100);
            due("as far as can be", g.judge(0, Integer.MAX_VALUE), 100);
            g.move(0, 2, 0);
            due("then from 1", g.judge(0, 1), 101);
            g.tape(0, 0, 0);
            due("an empty row", g.judge(0, 0), 100);
        });
        test(ends, "39 of 40", g -> {
            for (int n = 0; n < 40; n++) g.box(0, 0, n, 0, 1, 1);
            g.tape(0, 0, 39);
            for (int n = 0; n < 39; n++) g.item(0, n, n);
            due("from 0", g.judge(0, 0), 139);
        });
        test(ends, "otherwise ahead of the end", g -> {
            place(g, 0, 0, 1, 0, 1, 1, 0, 0, 2, 0, 1, 1, 0, 0, 3, 0, 1, 1);
            row(g, 1, 9);
            due("the second", g.judge(0, 0), 1);
        });
        test(ends, "the place below 0, and nothing held", g -> {
            dots(g, 2, 0, 0);
            due("nothing held", g.judge(0, 0), 100);
            due("nothing held, place 7", g.judge(0, 7), 100);
            row(g, 0, 0, 0);
            due("-1", g.judge(0, -1), 100);
            due("as far below as can be", g.judge(0, Integer.MIN_VALUE), 100);
        });
    }

    private static void refusals() {
        test("The host's refusals: NOTHING (-11): nothing is there;", "a TAPE, a BOX", g -> {
            due("item", g.item(0, 0, 0), -11);
            due("shift", g.shift(0, 0, 0, 0, 0), -11);
            due("taken", g.taken(0, 0), -11);
        });
        test("CAST (-12): another sort or KIND;", "a sort, a KIND", g -> {
            g.tape(0, 1, 1);
            g.tape(1, 2, 1);
            g.box(1, 0, 0, 0, 1, 1);
            due("judge", g.judge(0, 0), -12);
            due("shift", g.shift(0, 0, 1, 0, 1), -12);
            due("taken", g.taken(0, 2), -12);
        });
        test("PLACE (-13): no such place;", "ahead of a row and behind it", g -> {
            g.tape(0, 0, 3);
            due("item -1", g.item(0, -1, 0), -13);
            due("item 0", g.item(0, 0, 0), 1);
            due("item 2", g.item(0, 2, 0), 1);
            due("item 3", g.item(0, 3, 0), -13);
        });
        test("SIZE (-14): a size below 0.", "-1, and as far below as can be", g -> {
            due("-1", g.tape(0, 0, -1), -14);
            due("least", g.tape(0, 0, Integer.MIN_VALUE), -14);
            due("0", g.tape(0, 0, 0), 1);
        });
    }

    // ---- Answers

    private static void answers() {
        test("Answers: NONE (-1) no such number (a BOX that is GONE is none);", "one GONE, one that didn't come, one below 0", g -> {
            scene(g);
            int[] none = {4, 5, 40, -2, Integer.MAX_VALUE, Integer.MIN_VALUE};
            for (int b : none) dueNone(g, b);
            // by the number -1 these are emptied
            due("speed", g.speed(-1, 0, 0), -10001);
            due("of", g.of(-1, 0), -1);
            due("far", g.far(-1, 0, 0), -1);
            due("speeds", g.speeds(-1, 0), -1);
        });
        test("BAD (-2) a number is not as told;", "one of each call that says so", g -> {
            scene(g);
            due("box", g.box(0, 0, 0, 0, 33, 1), -2);
            due("room", g.room(10), -2);
            due("feed", g.feed(128), -2);
            due("pass", g.pass(41), -2);
            due("on", g.on(41, 0), -2);
            due("see", g.see(0, 13, 0), -2);
            due("book", g.book(0, 100000), -2);
            due("taken", g.taken(0, 4), -2);
            due("count", g.count(6), -2);
            due("tape", g.tape(0, 5, 0), -2);
        });
        test("STATE (-3) as told;", "one of each call that says so", g -> {
            due("undo", g.undo(), -3);
            scene(g);
            due("box", g.box(0, 0, 127, 0, 2, 1), -3);
            due("move", g.move(0, 121, 0), -3);
            due("first", g.first(0, 3), -3);
            due("speeds", g.speeds(0, 0), -3);
        });
        test("FULL (-4);", "one of each call that says so", g -> {
            dots(g, 40, 0, 0);
            for (int n = 0; n < 5; n++) g.see(0, 0, 0);
            for (int n = 0; n < 10; n++) g.plan(0, 0);
            for (int n = 0; n < 8; n++) g.book(0, 0);
            for (int n = 0; n < 100; n++) g.feed(0);
            due("box", g.box(0, 0, 0, 0, 1, 1), -4);
            due("see", g.see(0, 0, 0), -4);
            due("plan", g.plan(0, 0), -4);
            due("book", g.book(0, 0), -4);
            due("feed", g.feed(0), -4);
        });
        test("the first that a call's words name.", "each two of a call's refusals", g -> {
            scene(g);
            due("box: NONE, BAD", g.box(4, 0, 0, 0, 33, 1), -1);
            due("box: NONE, STATE", g.box(0, 2, 128, 0, 1, 1), -1);
            due("box: BAD, STATE", g.box(0, 0, 128, 0, 1, 0), -2);
            due("speed: NONE, BAD", g.speed(4, 10, 0), -10001);
            due("speed: BAD, STATE", g.speed(0, 0, 10), -10002);
            due("move: NONE, STATE", g.move(4, 128, 0), -1);
            due("on: NONE, BAD", g.on(41, 104), -1);
            due("first: NONE, STATE", g.first(4, 4), -1);
            due("see: NONE, BAD", g.see(4, 13, 128), -1);
            due("speeds: NONE, STATE", g.speeds(0, 2), -1);
            due("book: NONE, BAD", g.book(4, -1), -1);
            due("judge: NONE, CAST", g.judge(6, 0), -1);
            due("judge: CAST, the place", g.judge(1, -1), -12);
            due("taken: BAD, NOTHING", g.taken(4, 4), -2);
            due("tape: NONE, BAD", g.tape(6, 5, 0), -1);
            due("tape: NONE, SIZE", g.tape(-1, 0, -1), -1);
            due("tape: BAD, SIZE", g.tape(0, 5, -1), -2);
            due("item: NONE, PLACE", g.item(6, -1, 0), -1);
            due("item: NOTHING, PLACE", g.item(5, -1, 0), -11);
            due("shift: NONE, NOTHING", g.shift(5, 0, 6, 0, 0), -1);
            due("shift: NONE, PLACE", g.shift(-1, -1, 0, 0, 0), -1);
            due("shift: NOTHING, CAST", g.shift(0, 0, 5, 0, 0), -11);
            due("shift: NOTHING, PLACE", g.shift(5, -1, 5, -1, -1), -11);
            due("shift: CAST, PLACE", g.shift(0, -1, 1, 9, 99), -12);
        });
        test("the first that a call's words name.", "ahead of FULL", g -> {
            dots(g, 40, 0, 0);
            for (int n = 0; n < 5; n++) g.see(0, 0, 0);
            for (int n = 0; n < 10; n++) g.plan(0, 0);
            for (int n = 0; n < 8; n++) g.book(0, 0);
            for (int n = 0; n < 100; n++) g.feed(0);
            due("box: NONE", g.box(4, 0, 0, 0, 1, 1), -1);
            due("box: BAD", g.box(0, 0, 0, 0, 0, 1), -2);
            due("box: STATE", g.box(0, 0, 128, 0, 1, 1), -3);
            due("see: NONE", g.see(40, 0, 0), -1);
            due("see: BAD", g.see(0, 13, 0), -2);
            due("plan: NONE, what", g.plan(4, 0), -1);
            due("plan: NONE, box", g.plan(1, 40), -1);
            due("book: NONE", g.book(40, 0), -1);
            due("book: BAD", g.book(0, -1), -2);
            due("feed: BAD", g.feed(-1), -2);
        });
        test("the first that a call's words name.", "BAD ahead of STATE when TIME is over", g -> {
            for (int n = 0; n < 249; n++) g.pass(40);
            g.pass(39);
            due("BAD", g.pass(41), -2);
            due("STATE", g.pass(40), -3);
        });
        keeps("What is answered so changes nothing;", "one of each refusal", SentencesOfAnswers::refusedOnes, -11);
        keeps("what is asked changes nothing.", "one of each call that asks", SentencesOfAnswers::askedOnes, 10);
    }

    private static void dueNone(Grid g, int b) {
        due("speed " + b, g.speed(b, 0, 0), -10001);
        due("move " + b, g.move(b, 0, 0), -1);
        due("drop " + b, g.drop(b), -1);
        due("of " + b, g.of(b, 0), -1);
        due("far " + b, g.far(b, 0, 0), -1);
        for (int what = 100; what < 400 && b >= 0 && b < 100; what += 100) due("on " + b, g.on(0, what + b), -1);
        due("first " + b + ", 1", g.first(b, 1), -1);
        due("first 1, " + b, g.first(1, b), -1);
        due("see " + b, g.see(b, 0, 0), -1);
        due("speeds " + b, g.speeds(b, 0), -1);
        due("odds " + b, g.odds(b, 0), NO);
        for (int what = 1; what <= 3; what++) due("plan " + b, g.plan(what, b), -1);
        due("book " + b, g.book(b, 0), -1);
        due("taken " + b, g.taken(b, 0), -11);
    }

    private static long refusedOnes(Grid g) {
        g.box(4, 0, 0, 0, 1, 1);
        g.box(0, 0, 0, 0, 0, 1);
        g.box(0, 0, 128, 0, 1, 1);
        g.speed(4, 1, 1);
        g.speed(1, 10, 1);
        g.speed(1, 1, -10);
        g.speed(0, 1, 1);
        g.move(4, 0, 0);
        g.move(0, 121, 0);
        g.move(0, 0, 121);
        g.drop(4);
        g.room(0);
        g.feed(128);
        g.pass(41);
        g.pass(-1);
        g.see(4, 0, 0);
        g.see(1, 13, 0);
        g.see(1, 0, 128);
        g.plan(4, 0);
        g.plan(1, 4);
        g.book(4, 0);
        g.book(1, -1);
        g.tape(6, 0, 0);
        g.tape(0, 5, 0);
        g.tape(0, 0, 61);
        g.tape(0, 0, -1);
        g.item(0, 5, 1);
        g.item(0, -1, 1);
        g.shift(1, 0, 2, 0, 1);
        g.shift(0, 0, 0, 3, 3);
        g.shift(5, 0, 0, 0, 1);
        return g.item(5, 0, 0);
    }

    private static long askedOnes(Grid g) {
        for (int what = 0; what < 6; what++) {
            g.of(1, what);
            g.of(2, what + 6);
            g.square(what, 0);
            g.cell(1, 0, what);
            g.told(what);
            g.count(what);
        }
        g.far(0, 0, 0);
        g.nearest(0, 0, 0, 1);
        g.window(0, 0, 99, 99);
        g.pair(0);
        g.on(40, 0);
        g.on(40, 301);
        g.first(0, 1);
        g.speeds(2, 0);
        g.odds(1, 0);
        g.mean(0);
        g.ends(0);
        g.ends(1);
        g.looked();
        g.judge(0, 0);
        g.taken(1, 0);
        g.read(0, 0);
        return g.on(40, 100);
    }
}
