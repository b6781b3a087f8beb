/** The document's face, so that one test can be told to LooseGrid and to PlainGrid alike. */
interface Grid {
    int box(int kind, int layer, int x, int y, int width, int height);
    int speed(int box, int vx, int vy);
    int move(int box, int x, int y);
    int drop(int box);
    int room(int n);
    int feed(int sign);
    int boxes();
    int of(int box, int what);
    int square(int path, int what);
    int cell(int x, int y, int what);
    int told(int what);
    int far(int box, int x, int y);
    int nearest(int x, int y, int test, int k);
    long window(int x, int y, int width, int height);
    int pair(int k);
    int pass(int n);
    int on(int n, int what);
    int first(int a, int b);
    int see(int box, int n, int x);
    int speeds(int box, int what);
    long odds(int box, int part);
    long mean(int part);
    int plan(int what, int n);
    int ends(int what);
    int book(int box, int path);
    int looked();
    int judge(int tape, int i);
    int image();
    int undo();
    int taken(int box, int k);
    int count(int what);
    int tape(int tape, int sort, int n);
    int item(int tape, int i, long v);
    long read(int tape, int i);
    int shift(int tape, int i, int other, int j, int n);
}
