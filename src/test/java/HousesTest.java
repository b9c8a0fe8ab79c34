/** Promises 1 to 8: a new object, write, wipe, fault, lay, clock, wall, noon. */
public final class HousesTest {
    private static final Due DUE = new Due();

    public static void main(String[] args) {
        newObject();
        write();
        wipe();
        faultOfItems();
        faultOfNumbers();
        faultOfLimits();
        lay();
        clock();
        wall();
        noon();
        DUE.end("HousesTest");
    }

    private static void newObject() {
        TaughtClocks x = new TaughtClocks();
        int[] counts = {5, 3, 5, 0, 1, 0, 0, 0, 0};
        for (int what = 0; what < counts.length; what++) {
            DUE.is("new count(" + what + ")", counts[what], x.count(what));
        }
        DUE.wrongsAre("new", "0,12,-5,30,-20", x);
        DUE.is("new fault", -4, x.fault());
        DUE.is("new lay", -2, x.lay());
        DUE.is("new wipe", 0, x.wipe());
        DUE.is("new undo", -2, x.undo());
        DUE.is("new back", -2, x.back());
        DUE.is("new forget", 0, x.forget());
        // l0,0,1 and l1,1,2 of the first house: 1 is taught to be 6, then 2 on the next day.
        x.pass(1);
        DUE.wrongsAre("new, day 1", "1,5,-4,28,-17", x);
        DUE.is("BAD", -1, TaughtClocks.BAD);
        DUE.is("NO", -2, TaughtClocks.NO);
        DUE.is("FULL", -3, TaughtClocks.FULL);
        DUE.is("NONE", -4, TaughtClocks.NONE);
    }

    private static void write() {
        TaughtClocks x = new TaughtClocks();
        DUE.is("write(31)", -1, x.write(31));
        DUE.is("write(127)", -1, x.write(127));
        DUE.is("write(-1)", -1, x.write(-1));
        DUE.is("write(min)", -1, x.write(Integer.MIN_VALUE));
        DUE.is("write(32)", 1, x.write(32));
        DUE.is("write(126)", 2, x.write(126));
        for (int i = 3; i <= 200; i++) {
            DUE.is("write " + i, i, x.write('c'));
        }
        DUE.is("write 201", -3, x.write('c'));
        DUE.is("write BAD ahead of FULL", -1, x.write(10));
        DUE.is("count(8) at the full", 200, x.count(8));
        DUE.is("the full text is laid not", -2, x.lay());
    }

    private static void wipe() {
        TaughtClocks x = new TaughtClocks();
        Due.write(x, "c0,100,10;x");
        DUE.is("fault ahead of wipe", 10, x.fault());
        DUE.is("wipe", 11, x.wipe());
        DUE.is("wipe again", 0, x.wipe());
        DUE.is("fault behind wipe", -4, x.fault());
        DUE.is("write behind wipe", 1, x.write('c'));
    }

    private static void fault(String text, int want) {
        DUE.is("fault of " + text, want, Due.faultOf(text));
    }

    private static void faultOfItems() {
        fault("", -4);
        fault("c0,100,10;", -4);
        fault("c0,100,10", 0);
        fault("c", 0);
        fault("c0,100,10;c", 10);
        fault("c0,100,10;w", 10);
        fault("C0,100,10;", 0);
        fault(" c0,100,10;", 0);
        fault("c0,100,10; ", 10);
        fault("c 0,100,10;", 0);
        fault("c0,100,10;;", 10);
        fault(";", 0);
        fault("x0,1;", 0);
        fault("c0,100,10;c0,100,10;x0,1;w0,0;", 20);
        fault("c0,100;", 0);
        fault("c0,100,10,1;", 0);
        fault("c0,100,10,;", 0);
        fault("c0,100,;", 0);
        fault("c,100,10;", 0);
        fault("c0,,10;", 0);
        fault("c;", 0);
        fault("c0,100,10;c1,1,1;w0;", 17);
        fault("c0,100,10;c1,1,1;w0,1,0;", 17);
    }

    private static void faultOfNumbers() {
        fault("c0,0,0;", -4);
        fault("c4,200,20;", -4);
        fault("c000,000,000;", -4);
        fault("c004,020,005;", -4);
        fault("c0000,1,1;", 0);
        fault("c0,0100,1;", 0);
        fault("c5,100,10;", 0);
        fault("c0,201,10;", 0);
        fault("c0,100,21;", 0);
        fault("c-1,100,10;", 0);
        fault("c0,999,10;", 0);
        String two = "c0,1,1;c0,1,1;";
        fault(two + "w0,1;", -4);
        fault(two + "w1,0;w0,1;w01,000;", -4);
        fault(two + "w0,0;", 14);
        fault(two + "w0,2;", 14);
        fault(two + "w2,0;", 14);
        fault("c0,1,1;w0,1;c0,1,1;", 7);
        fault(two + "l0,0,1;", -4);
        fault(two + "l13,1,0;l13,1,0;", -4);
        fault(two + "l14,1,0;", 14);
        fault(two + "l0,1,1;", 14);
        fault(two + "l0,0,2;", 14);
        fault(two + "l0,2,0;", 14);
        fault("c0,1,1;l0,0,1;c0,1,1;", 7);
        fault(two + "l0,1;", 14);
    }

    private static void faultOfLimits() {
        String seven = "c0,1,1;".repeat(7);
        fault(seven, -4);
        fault(seven + "c0,1,1;", 49);
        fault(seven + "w6,5;l0,6,5;", -4);
        fault(seven + "w7,0;", 49);
        String two = "c0,1,1;c0,1,1;";
        fault(two + "l0,0,1;".repeat(9), -4);
        fault(two + "l0,0,1;".repeat(10), 14 + 63);
        fault(two + "w0,1;".repeat(37), -4);
    }

    private static void lay() {
        TaughtClocks x = new TaughtClocks();
        x.pass(3);
        x.keep();
        x.hear(0, 600);
        Due.write(x, "c0,100,10;c3,90,10;w0");
        DUE.is("lay with a fault", -2, x.lay());
        DUE.is("count(0) behind NO", 5, x.count(0));
        DUE.is("count(1) behind NO", 3, x.count(1));
        DUE.is("count(2) behind NO", 5, x.count(2));
        DUE.is("count(3) behind NO", 3, x.count(3));
        DUE.is("count(5) behind NO", 1, x.count(5));
        DUE.is("count(6) behind NO", 1, x.count(6));
        DUE.is("count(7) behind NO", 1, x.count(7));
        DUE.is("kind behind NO", 1, x.clock(1, 0));
        x.write(',');
        x.write('1');
        x.write(';');
        DUE.is("fault lays nothing", -4, x.fault());
        DUE.is("count(0) behind fault", 5, x.count(0));
        DUE.is("lay", 2, x.lay());
        int[] counts = {2, 1, 0, 0, 1, 0, 0, 0, 24};
        for (int what = 0; what < counts.length; what++) {
            DUE.is("laid count(" + what + ")", counts[what], x.count(what));
        }
        DUE.wrongsAre("laid", "0,-10", x);
        DUE.is("undo behind lay", -2, x.undo());
        DUE.is("back behind lay", -2, x.back());
        x.pass(1);
        DUE.wrongsAre("laid, by the wall alone", "-1,-9", x);
        DUE.is("lay again", 2, x.lay());
        DUE.wrongsAre("laid again", "0,-10", x);
        DUE.is("day again", 0, x.count(3));
        x.wipe();
        DUE.is("lay of nothing", -2, x.lay());
        DUE.is("clocks behind that", 2, x.count(0));
        DUE.is("one clock", 1, Due.laid("c3,0,0;").count(0));
    }

    private static void clock() {
        TaughtClocks x = Due.laid("c4,0,0;c3,200,20;c2,100,10;w0,1;w1,0;w1,2;");
        int[][] want = {{4, 500, 0, 1}, {3, 700, 20, 2}, {2, 600, 10, 1}};
        for (int c = 0; c < 3; c++) {
            for (int what = 0; what < 4; what++) {
                DUE.is("clock(" + c + ", " + what + ")", want[c][what], x.clock(c, what));
            }
        }
        DUE.is("clock(3, 0)", -1, x.clock(3, 0));
        DUE.is("clock(-1, 0)", -1, x.clock(-1, 0));
        DUE.is("clock(0, -1)", -1, x.clock(0, -1));
        DUE.is("clock(0, 4)", -1, x.clock(0, 4));
    }

    private static void wall() {
        TaughtClocks x = Due.laid("c4,0,0;c3,200,20;c2,100,10;w0,1;w1,0;w2,1;");
        DUE.is("walls", 2, x.count(1));
        DUE.is("wall(0, 1)", 1, x.wall(0, 1));
        DUE.is("wall(1, 0)", 1, x.wall(1, 0));
        DUE.is("wall(1, 2)", 1, x.wall(1, 2));
        DUE.is("wall(0, 2)", 0, x.wall(0, 2));
        DUE.is("wall(2, 0)", 0, x.wall(2, 0));
        DUE.is("wall(1, 1)", -1, x.wall(1, 1));
        DUE.is("wall(0, 3)", -1, x.wall(0, 3));
        DUE.is("wall(3, 0)", -1, x.wall(3, 0));
        DUE.is("wall(-1, 0)", -1, x.wall(-1, 0));
        DUE.is("wall(0, -1)", -1, x.wall(0, -1));
        Due.write(x, "c0,1,1;c0,1,1;c0,1,1;");
        x.lay();
        DUE.is("walls of the next house", 0, x.wall(0, 1) + x.wall(1, 2) + x.count(1));
    }

    private static void noon() {
        DUE.is("noon of one", 570, Due.laid("c0,70,10;").noon());
        DUE.is("noon of two", 570, Due.laid("c0,170,10;c0,70,10;").noon());
        DUE.is("noon of three", 601, Due.laid("c0,170,10;c0,70,10;c0,101,10;").noon());
        DUE.is("noon of four", 590, Due.laid("c0,170,10;c0,70,10;c0,101,10;c3,90,10;").noon());
        DUE.is("noon of alike ones", 605, Due.laid("c0,105,10;c0,70,10;c0,105,10;c3,105,10;").noon());
        DUE.is("noon of seven", 603,
            Due.laid("c0,107,9;c0,101,9;c0,106,9;c0,102,9;c0,105,9;c0,103,9;c0,104,9;").noon() - 1);
        TaughtClocks x = new TaughtClocks();
        x.set(3);
        x.set(4);
        x.set(1);
        DUE.is("noon of the set", 600, x.noon());
    }
}
