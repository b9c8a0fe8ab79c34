/** Promises 25 to 29: draughts, year, keep, back, count. */
public final class YearsTest {
    private static final Due DUE = new Due();

    public static void main(String[] args) {
        draughts();
        year();
        keep();
        back();
        count();
        DUE.end("YearsTest");
    }

    private static void chance(TaughtClocks x, int c, int n, int draughty, int above, int below) {
        String call = "draughts(" + c + ", " + n + ", " + draughty + ")";
        DUE.is(call + " above", above, x.draughts(c, n, draughty, 0));
        DUE.is(call + " below", below, x.draughts(c, n, draughty, 1));
    }

    private static void draughts() {
        // 1 and 0 through a wall: 1 is right at once, 0 as soon as one day is no draughty one.
        TaughtClocks x = Due.laid("c0,101,10;c0,100,10;w0,1;");
        chance(x, 0, 0, 5, 0, 1);
        chance(x, 1, 0, 5, 1, 1);
        chance(x, 1, 6, 5, 1, 1);
        chance(x, 0, 1, 5, 1, 2);
        chance(x, 0, 2, 5, 3, 4);
        chance(x, 0, 6, 5, 63, 64);
        chance(x, 0, 1, 3, 7, 10);
        chance(x, 0, 2, 3, 91, 100);
        chance(x, 0, 6, 3, 999271, 1000000);
        chance(x, 0, 1, 0, 1, 1);
        chance(x, 0, 1, 10, 0, 1);
        chance(x, 0, 1, 4, 3, 5);
        chance(x, 0, 3, 8, 61, 125);
        // A lesson is no hearing.
        x = Due.laid("c0,105,10;c0,100,10;l0,1,0;");
        chance(x, 0, 1, 10, 1, 1);
        // It is right behind just one day without: 1 apart from a blind one, and it gains 0.
        x = Due.laid("c0,104,10;c3,100,10;w0,1;");
        chance(x, 0, 2, 5, 0, 1);
        DUE.is("draughts(2, ..)", -1, x.draughts(2, 1, 1, 0));
        DUE.is("draughts(-1, ..)", -1, x.draughts(-1, 1, 1, 0));
        DUE.is("draughts(0, 7, ..)", -1, x.draughts(0, 7, 1, 0));
        DUE.is("draughts(0, -1, ..)", -1, x.draughts(0, -1, 1, 0));
        DUE.is("draughts(0, 1, 11, 0)", -1, x.draughts(0, 1, 11, 0));
        DUE.is("draughts(0, 1, -1, 0)", -1, x.draughts(0, 1, -1, 0));
        DUE.is("draughts(0, 1, 1, 2)", -1, x.draughts(0, 1, 1, 2));
        DUE.is("draughts(0, 1, 1, -1)", -1, x.draughts(0, 1, 1, -1));
        DUE.wrongsAre("draughts", "4,0", x);
        DUE.is("no day goes by", 0, x.count(3));
    }

    private static void year() {
        // z 0, k 0: x 1, DRAW 0. z 1, k 0: x 7920, x times x modulo 65521 is 22803, DRAW 2850: 0 to 1.
        TaughtClocks x = Due.laid("c0,100,10;c0,150,10;c0,190,10;c0,180,10;c0,120,10;");
        DUE.is("year(0, 1, 0)", 650, x.year(0, 1, 0));
        DUE.is("year(0, 1, 1)", 1, x.year(0, 1, 1));
        DUE.is("year(1, 1, 1)", 2, x.year(1, 1, 1));
        DUE.is("year(1, 1, 0)", 620, x.year(1, 1, 0));
        DUE.is("year(10000, 1, 0)", -1, x.year(10000, 1, 0));
        DUE.is("year(-1, 1, 0)", -1, x.year(-1, 1, 0));
        DUE.is("year(0, 0, 0)", -1, x.year(0, 0, 0));
        DUE.is("year(0, 61, 0)", -1, x.year(0, 61, 0));
        DUE.is("year(0, 1, 2)", -1, x.year(0, 1, 2));
        DUE.is("year(0, 1, -1)", -1, x.year(0, 1, -1));
        DUE.wrongsAre("year", "0,50,90,80,20", x);
        DUE.is("no day goes by", 0, x.count(3) + x.count(6));
        // Worked out apart from the program, draw by draw.
        x = Due.laid("c0,101,10;c0,102,10;c0,104,10;c0,108,10;c0,116,10;c0,132,10;c0,164,10;");
        DUE.is("year(9999, 3, 0)", 604, x.year(9999, 3, 0));
        DUE.is("year(2, 10, 0)", 616, x.year(2, 10, 0));
        x = Due.laid("c0,101,11;c0,102,12;c0,104,13;c0,108,14;c0,116,15;c0,132,16;c0,164,17;");
        DUE.is("year(9999, 60, 0)", 903, x.year(9999, 60, 0));
        DUE.is("year(4321, 37, 0)", 822, x.year(4321, 37, 0));
        x = Due.laid("c0,100,11;c4,100,12;c3,100,13;c2,100,14;c0,100,15;c0,100,16;c0,164,3;");
        int[] noons = {603, 604, 609, 612, 613, 618, 621, 624};
        for (int n = 1; n <= 8; n++) {
            DUE.is("year(1234, " + n + ", 0)", noons[n - 1], x.year(1234, n, 0));
        }
        // Days go by as ever in it: with lessons told, through walls.
        x = Due.laid("c0,101,10;c3,105,10;w0,1;l1,1,0;");
        DUE.is("year(0, 1, 0) through a wall", 602, x.year(0, 1, 0));
        DUE.is("year(0, 2, 0) with a lesson", 604, x.year(0, 2, 0));
        x = Due.laid("c0,101,11;");
        DUE.is("year(9999, 60, 0) of one", 661, x.year(9999, 60, 0));
        DUE.is("year(9999, 60, 1) of one", 0, x.year(9999, 60, 1));
    }

    private static void keep() {
        TaughtClocks x = Due.laid("c0,120,12;c0,150,10;");
        DUE.is("keep", 1, x.keep());
        x.pass(1);
        DUE.is("keep", 2, x.keep());
        x.pass(1);
        DUE.is("keep", -3, x.keep());
        DUE.is("count(7)", 2, x.count(7));
        DUE.is("count(6)", 2, x.count(6));
        DUE.is("back", 1, x.back());
        DUE.wrongsAre("back", "22,50", x);
        DUE.is("keep", 2, x.keep());
    }

    private static void back() {
        TaughtClocks x = Due.laid("c0,120,12;c0,150,10;");
        DUE.is("back", -2, x.back());
        x.pass(2);
        x.keep();
        x.oil(0);
        x.set(1);
        x.pass(3);
        x.keep();
        x.pass(4);
        x.hear(0, 600);
        x.wipe();
        x.write('c');
        DUE.is("back", 1, x.back());
        DUE.wrongsAre("back", "27,0", x);
        DUE.is("days", 5, x.count(3));
        DUE.is("gain", 11, x.clock(0, 2));
        DUE.is("heard stays", 1, x.count(5));
        DUE.is("the text stays", 1, x.count(8));
        DUE.is("nothing is undone", -2, x.undo());
        x.pass(1);
        DUE.is("back", 0, x.back());
        DUE.wrongsAre("back", "24,50", x);
        DUE.is("days", 2, x.count(3));
        DUE.is("gain", 12, x.clock(0, 2));
        DUE.is("nothing is undone", 0, x.count(6));
        DUE.is("back", -2, x.back());
        x.pass(1);
        DUE.is("NO changes nothing", -2, x.back());
        DUE.is("so it can be undone", 0, x.undo());
    }

    private static void count() {
        TaughtClocks x = Due.laid("c0,100,10;c0,150,10;c3,100,10;w0,1;w1,0;w2,1;l0,0,1;l0,0,1;l3,0,1;");
        x.keep();
        x.hear(0, 0);
        x.hear(0, 0);
        x.set(0);
        x.oil(0);
        x.pass(1);
        int[] counts = {3, 2, 3, 1, 3, 2, 2, 1, 66};
        for (int what = 0; what < counts.length; what++) {
            DUE.is("count(" + what + ")", counts[what], x.count(what));
        }
        DUE.is("count(9)", -1, x.count(9));
        DUE.is("count(-1)", -1, x.count(-1));
    }
}
