import java.util.ArrayList;
import java.util.Comparator;
import java.util.List;
import java.util.TreeSet;
import java.util.regex.Matcher;
import java.util.regex.Pattern;

/**
 * The document once more, told as slowly as it reads: a tree of squares that is built for each question,
 * places gone through one by one, a pattern for THE TEXT, arrays of each sort. ModelTest holds LooseGrid to it.
 */
final class PlainGrid {
    static final class Thing {
        int kind, layer, x, y, width, height, vx, vy;
        boolean gone;

        Thing copy() {
            Thing t = new Thing();
            t.kind = kind;
            t.layer = layer;
            t.x = x;
            t.y = y;
            t.width = width;
            t.height = height;
            t.vx = vx;
            t.vy = vy;
            t.gone = gone;
            return t;
        }

        boolean covers(int px, int py) {
            return px >= x && px <= x + width - 1 && py >= y && py <= y + height - 1;
        }

        boolean lies(int left, int top, int side) {
            return x >= left && y >= top && x + width <= left + side && y + height <= top + side;
        }
    }

    static final class All {
        List<Thing> things = new ArrayList<>();
        int time = 0;
        int room = 3;
        List<int[]> seen = new ArrayList<>(), plan = new ArrayList<>(), book = new ArrayList<>();

        All copy() {
            All a = new All();
            for (Thing t : things) {
                a.things.add(t.copy());
            }
            a.time = time;
            a.room = room;
            a.seen = new ArrayList<>(seen);
            a.plan = new ArrayList<>(plan);
            a.book = new ArrayList<>(book);
            return a;
        }
    }

    static final class Node {
        int path, depth, left, top, side;
        List<Integer> whole = new ArrayList<>(), in = new ArrayList<>();
        boolean split;
    }

    private All all = new All();
    private All image = null;
    private final StringBuilder text = new StringBuilder();
    private final Object[] tapes = new Object[6];

    private static Thing there(All a, int n) {
        return n >= 0 && n < a.things.size() && !a.things.get(n).gone ? a.things.get(n) : null;
    }

    private static int left(All a) {
        int n = 0;
        for (Thing t : a.things) {
            n += t.gone ? 0 : 1;
        }
        return n;
    }

    private static boolean on(long x, long y, long w, long h) {
        return x >= 0 && y >= 0 && x + w <= 128 && y + h <= 128;
    }

    int box(int kind, int layer, int x, int y, int width, int height) {
        if (kind < 0 || kind > 3 || layer < 0 || layer > 1) return -1;
        if (width < 1 || width > 32 || height < 1 || height > 32) return -2;
        if (!on(x, y, width, height)) return -3;
        if (all.things.size() == 40) return -4;
        Thing t = new Thing();
        t.kind = kind;
        t.layer = layer;
        t.x = x;
        t.y = y;
        t.width = width;
        t.height = height;
        all.things.add(t);
        return all.things.size() - 1;
    }

    int speed(int box, int vx, int vy) {
        Thing t = there(all, box);
        if (t == null) return -10001;
        if (vx < -9 || vx > 9 || vy < -9 || vy > 9) return -10002;
        if (t.kind == 0) return -10003;
        int was = 100 * (t.vx + 50) + (t.vy + 50);
        t.vx = vx;
        t.vy = vy;
        return was;
    }

    int move(int box, int x, int y) {
        Thing t = there(all, box);
        if (t == null) return -1;
        if (!on(x, y, t.width, t.height)) return -3;
        int d = (x - t.x) * (x - t.x) + (y - t.y) * (y - t.y);
        t.x = x;
        t.y = y;
        return d;
    }

    int drop(int box) {
        Thing t = there(all, box);
        if (t == null) return -1;
        t.gone = true;
        return left(all);
    }

    int room(int n) {
        if (n < 1 || n > 9) return -2;
        int was = all.room;
        all.room = n;
        return was;
    }

    int feed(int sign) {
        if (sign < 0 || sign > 127) return -2;
        if (text.length() == 100) return -4;
        text.append((char) sign);
        return text.length();
    }

    private static final String PLACE = "(?:1[01]\\d|12[0-7]|0\\d\\d|\\d\\d?)";
    private static final String SIZE = "(?:0[1-9]|[12]\\d|3[0-2]|[1-9])";
    private static final String CLAUSE = "[bmow][01]," + PLACE + "," + PLACE + ":" + SIZE + "x" + SIZE
            + "(?:>[+-]\\d[+-]\\d)?";
    private static final Pattern TEXT = Pattern.compile(CLAUSE + "(?:;" + CLAUSE + "){0,7}");

    private static boolean begins(String s) {
        Matcher m = TEXT.matcher(s);
        return m.matches() || m.hitEnd();
    }

    private static int fault(String s) {
        if (TEXT.matcher(s).matches()) return -1;
        int at = 0;
        while (at < s.length() && begins(s.substring(0, at + 1))) at++;
        boolean afterZero = at >= 2 && s.charAt(at - 1) == '0' && ":x".indexOf(s.charAt(at - 2)) >= 0;
        boolean digitFollows = at < s.length() && Character.isDigit(s.charAt(at));
        return afterZero && !digitFollows ? at - 1 : at;
    }

    int boxes() {
        String s = text.toString();
        text.setLength(0);
        int fault = fault(s);
        if (fault >= 0) return -10 - fault;
        int came = 0;
        for (String clause : s.split(";")) {
            String[] parts = clause.split("[,:x>]");
            int n = box("bmow".indexOf(clause.charAt(0)), clause.charAt(1) - '0', Integer.parseInt(parts[1]),
                    Integer.parseInt(parts[2]), Integer.parseInt(parts[3]), Integer.parseInt(parts[4]));
            if (n >= 0) {
                came++;
                if (parts.length > 5 && all.things.get(n).kind != 0) {
                    all.things.get(n).vx = Integer.parseInt(parts[5].substring(0, 2));
                    all.things.get(n).vy = Integer.parseInt(parts[5].substring(2));
                }
            }
        }
        return came;
    }

    private static void build(All a, Node n, List<Node> nodes) {
        nodes.add(n);
        for (int b = 0; b < a.things.size(); b++) {
            Thing t = a.things.get(b);
            if (!t.gone && t.lies(n.left, n.top, n.side)) n.whole.add(b);
        }
        n.in.addAll(n.whole);
        n.split = n.whole.size() > a.room && n.depth < 5;
        if (!n.split) return;
        for (int q = 0; q < 4; q++) {
            Node part = new Node();
            part.path = n.path * 10 + q + 1;
            part.depth = n.depth + 1;
            part.side = n.side / 2;
            part.left = n.left + (q % 2) * part.side;
            part.top = n.top + (q / 2) * part.side;
            build(a, part, nodes);
            n.in.removeAll(part.whole);
        }
    }

    private static List<Node> nodes(All a) {
        Node root = new Node();
        root.side = 128;
        List<Node> nodes = new ArrayList<>();
        build(a, root, nodes);
        return nodes;
    }

    private static Node nodeOf(All a, int box) {
        for (Node n : nodes(a)) {
            if (n.in.contains(box)) return n;
        }
        throw new IllegalStateException("no square");
    }

    private static TreeSet<Integer> cells(Thing t) {
        TreeSet<Integer> set = new TreeSet<>();
        for (int x = t.x; x < t.x + t.width; x++) {
            for (int y = t.y; y < t.y + t.height; y++) {
                set.add(x / 16 * 8 + y / 16);
            }
        }
        return set;
    }

    private static boolean meet(Thing a, Thing b) {
        if (a.gone || b.gone || a.layer == b.layer) return false;
        for (int x = a.x; x < a.x + a.width; x++) {
            for (int y = a.y; y < a.y + a.height; y++) {
                if (b.covers(x, y)) return true;
            }
        }
        return false;
    }

    private static List<Integer> pairs(All a) {
        List<Integer> list = new ArrayList<>();
        for (int i = 0; i < a.things.size(); i++) {
            for (int j = 0; j < a.things.size(); j++) {
                if (a.things.get(i).layer == 0 && meet(a.things.get(i), a.things.get(j))) list.add(100 * i + j);
            }
        }
        return list;
    }

    int of(int box, int what) {
        Thing t = there(all, box);
        if (t == null || what < 0 || what > 11) return -1;
        int meets = 0;
        for (Thing o : all.things) meets += meet(t, o) ? 1 : 0;
        int[] answers = {t.kind, t.layer, t.x, t.y, t.width, t.height, t.vx + 50, t.vy + 50,
            nodeOf(all, box).path, nodeOf(all, box).depth, cells(t).size(), meets};
        return answers[what];
    }

    int square(int path, int what) {
        if (what < 0 || what > 3) return -1;
        for (Node n : nodes(all)) {
            if (n.path == path) {
                int[] answers = {n.in.size(), n.whole.size(), n.split ? 1 : 0, n.in.isEmpty() ? -5 : n.in.get(0)};
                return answers[what];
            }
        }
        return -1;
    }

    int cell(int x, int y, int what) {
        if (x < 0 || x > 7 || y < 0 || y > 7 || what < 0) return -1;
        List<Integer> list = new ArrayList<>();
        for (int b = 0; b < all.things.size(); b++) {
            Thing t = all.things.get(b);
            if (!t.gone && cells(t).contains(x * 8 + y)) list.add(b);
        }
        if (what == 0) return list.size();
        return what - 1 < list.size() ? list.get(what - 1) : -5;
    }

    int told(int what) {
        if (what < 0 || what > 5) return -1;
        TreeSet<Integer> touched = new TreeSet<>();
        for (Thing t : all.things) {
            if (!t.gone) touched.addAll(cells(t));
        }
        int deepest = 0;
        for (Node n : nodes(all)) deepest = Math.max(deepest, n.depth);
        int[] answers = {all.time, nodes(all).size(), deepest, pairs(all).size(), touched.size(), all.room};
        return answers[what];
    }

    private static int far(Thing t, int x, int y) {
        int best = Integer.MAX_VALUE;
        for (int px = t.x; px < t.x + t.width; px++) {
            for (int py = t.y; py < t.y + t.height; py++) {
                best = Math.min(best, (px - x) * (px - x) + (py - y) * (py - y));
            }
        }
        return best;
    }

    private static boolean place(int x, int y) {
        return x >= 0 && x <= 127 && y >= 0 && y <= 127;
    }

    int far(int box, int x, int y) {
        Thing t = there(all, box);
        return t == null || !place(x, y) ? -1 : far(t, x, y);
    }

    int nearest(int x, int y, int test, int k) {
        if (!place(x, y) || test < 0 || test > 4 || k < 0) return -1;
        List<int[]> list = new ArrayList<>();
        for (int b = 0; b < all.things.size(); b++) {
            Thing t = all.things.get(b);
            boolean[] holds = {true, t.layer == 0, t.layer == 1, t.kind > 0, t.width * t.height > 15};
            if (!t.gone && holds[test]) list.add(new int[] {far(t, x, y), b});
        }
        // the sort is stable, so that of like ones the least number is first
        list.sort(Comparator.comparingInt(row -> row[0]));
        return k < list.size() ? list.get(k)[1] : -5;
    }

    long window(int x, int y, int width, int height) {
        if (width < 1 || height < 1 || !on(x, y, width, height)) return Long.MIN_VALUE;
        long bits = 0;
        for (int b = 0; b < all.things.size(); b++) {
            Thing t = all.things.get(b);
            boolean found = false;
            for (int px = t.x; px < t.x + t.width; px++) {
                for (int py = t.y; py < t.y + t.height; py++) {
                    found |= px >= x && px < x + width && py >= y && py < y + height;
                }
            }
            if (found && !t.gone) bits += 1L << b;
        }
        return bits;
    }

    int pair(int k) {
        if (k < 0) return -1;
        List<Integer> list = pairs(all);
        return k < list.size() ? list.get(k) : -5;
    }

    private static void step(Thing t) {
        if (t.kind == 0) return;
        int x = t.x + t.vx;
        int y = t.y + t.vy;
        if (t.kind == 3) {
            int acrossX = 129 - t.width;
            int acrossY = 129 - t.height;
            t.x = (x + acrossX) % acrossX;
            t.y = (y + acrossY) % acrossY;
            return;
        }
        boolean outX = x < 0 || x + t.width > 128;
        boolean outY = y < 0 || y + t.height > 128;
        t.x = x < 0 ? 0 : x + t.width > 128 ? 128 - t.width : x;
        t.y = y < 0 ? 0 : y + t.height > 128 ? 128 - t.height : y;
        if (t.kind == 2 && outX) t.vx = -t.vx;
        if (t.kind == 2 && outY) t.vy = -t.vy;
    }

    private static void step(All a) {
        for (Thing t : a.things) step(t);
        a.time++;
    }

    int pass(int n) {
        if (n < 0 || n > 40) return -2;
        if (all.time + n > 9999) return -3;
        for (int i = 0; i < n; i++) step(all);
        return all.time;
    }

    int on(int n, int what) {
        boolean isBox = what >= 100 && what < 400 && there(all, what % 100) != null;
        if (what != 0 && !isBox) return -1;
        if (n < 0 || n > 40) return -2;
        All a = all.copy();
        for (int i = 0; i < n; i++) step(a);
        if (what == 0) return pairs(a).size();
        Thing t = a.things.get(what % 100);
        return what < 200 ? t.x : what < 300 ? t.y : nodeOf(a, what % 100).path;
    }

    int first(int a, int b) {
        if (there(all, a) == null || there(all, b) == null) return -1;
        if (all.things.get(a).layer == all.things.get(b).layer) return -3;
        All later = all.copy();
        for (int i = 0; i <= 40; i++) {
            if (meet(later.things.get(a), later.things.get(b))) return i;
            step(later);
        }
        return -5;
    }

    int see(int box, int n, int x) {
        if (box == -1) {
            all.seen.clear();
            return 0;
        }
        if (there(all, box) == null) return -1;
        if (n < 0 || n > 12 || x < 0 || x > 127) return -2;
        if (all.seen.size() == 5) return -4;
        all.seen.add(new int[] {box, n, x});
        return all.seen.size();
    }

    int speeds(int box, int what) {
        Thing t = there(all, box);
        if (t == null || what < 0 || what > 1) return -1;
        if (t.kind == 0) return -3;
        List<Integer> list = new ArrayList<>();
        for (int vx = -9; vx <= 9; vx++) {
            boolean so = true;
            for (int[] row : all.seen) {
                All a = all.copy();
                a.things.get(box).vx = vx;
                for (int i = 0; i < row[1]; i++) step(a);
                so &= !a.things.get(row[0]).gone && a.things.get(row[0]).x == row[2];
            }
            if (so) list.add(vx);
        }
        return what == 0 ? list.size() : list.isEmpty() ? -99 : list.get(0);
    }

    private static long lowest(int above, int below, int part) {
        int divisor = below;
        while (above % divisor != 0 || below % divisor != 0) divisor--;
        return part == 0 ? above / divisor : below / divisor;
    }

    long odds(int box, int part) {
        if (there(all, box) == null || part < 0 || part > 1) return Long.MIN_VALUE;
        int hits = 0;
        for (int i = 0; i < 64; i++) {
            hits += nearest(8 + i % 8 * 16, 8 + i / 8 * 16, 0, 0) == box ? 1 : 0;
        }
        return lowest(hits, 64, part);
    }

    long mean(int part) {
        if (left(all) == 0 || part < 0 || part > 1) return Long.MIN_VALUE;
        int area = 0;
        for (Thing t : all.things) area += t.gone ? 0 : t.width * t.height;
        return lowest(area, left(all), part);
    }

    int plan(int what, int n) {
        if (what == -1) {
            all.plan.clear();
            return 0;
        }
        if (what < 0 || what > 3 || what > 0 && there(all, n) == null) return -1;
        if (all.plan.size() == 10) return -4;
        all.plan.add(new int[] {what, n});
        return all.plan.size();
    }

    int ends(int what) {
        if (what < 0 || what > 1) return -1;
        All a = all.copy();
        for (int[] row : all.plan) {
            if (row[0] == 0) {
                step(a);
                continue;
            }
            Thing t = a.things.get(row[1]);
            if (t.gone) continue;
            if (row[0] == 1) t.gone = true;
            if (row[0] == 2) {
                t.vx *= -1;
                t.vy *= -1;
            }
            if (row[0] == 3) t.layer = 1;
        }
        return what == 0 ? pairs(a).size() : nodes(a).size();
    }

    int book(int box, int path) {
        if (box == -1) {
            all.book.clear();
            return 0;
        }
        if (there(all, box) == null) return -1;
        if (path < 0 || path > 99999) return -2;
        if (all.book.size() == 8) return -4;
        all.book.add(new int[] {box, path});
        return all.book.size();
    }

    int looked() {
        for (int i = 0; i < all.book.size(); i++) {
            int[] row = all.book.get(i);
            if (there(all, row[0]) == null || nodeOf(all, row[0]).path != row[1]) return i;
        }
        return -5;
    }

    int judge(int tape, int i) {
        if (tape < 0 || tape > 5) return -1;
        if (tapes[tape] != null && !(tapes[tape] instanceof byte[])) return -12;
        byte[] row = tapes[tape] == null ? new byte[0] : (byte[]) tapes[tape];
        for (int b = 0; b < all.things.size(); b++) {
            if (i < 0 || (long) i + b >= row.length) return 100 + b;
            int due = all.things.get(b).gone ? -1 : all.things.get(b).x;
            if (row[i + b] != due) return b;
        }
        return -5;
    }

    int image() {
        image = all.copy();
        return left(all);
    }

    int undo() {
        if (image == null) return -3;
        all = image.copy();
        return left(all);
    }

    int taken(int box, int k) {
        if (k < 0 || k > 3) return -2;
        Thing t = there(all, box);
        if (t == null) return -11;
        String[] under = {"0", "01", "012", "013"};
        return under[t.kind].indexOf('0' + k) >= 0 ? t.kind : -12;
    }

    int count(int what) {
        if (what < 0 || what > 5) return -2;
        int[] answers = {all.things.size(), left(all), all.seen.size(), all.plan.size(), all.book.size(),
            text.length()};
        return answers[what];
    }

    int tape(int tape, int sort, int n) {
        if (tape < 0 || tape > 5) return -1;
        if (sort == -1) {
            tapes[tape] = null;
            return 1;
        }
        if (sort < -1 || sort > 4 || n > 60) return -2;
        if (n < 0) return -14;
        Object[] rows = {new byte[n], new short[n], new int[n], new long[n], new boolean[n]};
        tapes[tape] = rows[sort];
        return 1;
    }

    private static int size(Object row) {
        return java.lang.reflect.Array.getLength(row);
    }

    int item(int tape, int i, long v) {
        if (tape < 0 || tape > 5) return -1;
        Object row = tapes[tape];
        if (row == null) return -11;
        if (i < 0 || i >= size(row)) return -13;
        if (row instanceof byte[]) ((byte[]) row)[i] = (byte) v;
        if (row instanceof short[]) ((short[]) row)[i] = (short) v;
        if (row instanceof int[]) ((int[]) row)[i] = (int) v;
        if (row instanceof long[]) ((long[]) row)[i] = v;
        if (row instanceof boolean[]) ((boolean[]) row)[i] = v != 0;
        return 1;
    }

    long read(int tape, int i) {
        if (tape < 0 || tape > 5) return Long.MIN_VALUE;
        Object row = tapes[tape];
        if (row == null || i < 0 || i >= size(row)) return Long.MIN_VALUE;
        if (row instanceof boolean[]) return ((boolean[]) row)[i] ? 1 : 0;
        return java.lang.reflect.Array.getLong(row, i);
    }

    int shift(int tape, int i, int other, int j, int n) {
        if (tape < 0 || tape > 5 || other < 0 || other > 5) return -1;
        if (tapes[tape] == null || tapes[other] == null) return -11;
        if (tapes[tape].getClass() != tapes[other].getClass()) return -12;
        boolean fits = n >= 0 && i >= 0 && j >= 0 && (long) i + n <= size(tapes[tape])
                && (long) j + n <= size(tapes[other]);
        if (!fits) return -13;
        long[] before = new long[n];
        for (int m = 0; m < n; m++) before[m] = read(tape, i + m);
        for (int m = 0; m < n; m++) item(other, j + m, before[m]);
        return n;
    }
}
