/** Promises 14 to 19: behind, right, ring, dull, pairs, oils. */
public final class ComesTest {
    private static final Due DUE = new Due();

    public static void main(String[] args) {
        behind();
        right();
        rightOnSunday();
        ring();
        dull();
        pairs();
        oils();
        DUE.end("ComesTest");
    }

    private static void behind() {
        TaughtClocks x = Due.laid("c0,100,12;c4,150,10;c3,90,10;l6,0,1;");
        DUE.is("behind(0, 1)", 650, x.behind(0, 1));
        DUE.is("behind(6, 1)", 650, x.behind(6, 1));
        DUE.is("behind(7, 1)", 612, x.behind(7, 1));
        DUE.is("behind(7, 0)", 614, x.behind(7, 0));
        DUE.is("behind(7, -1)", 612, x.behind(7, -1));
        DUE.is("behind(0, -1)", 600, x.behind(0, -1));
        DUE.is("behind(60, 0)", 720, x.behind(60, 0));
        DUE.is("behind(60, 1)", 612 + 28 * 3, x.behind(60, 1));
        DUE.is("behind(61, 0)", -1, x.behind(61, 0));
        DUE.is("behind(-1, 0)", -1, x.behind(-1, 0));
        DUE.is("behind(0, 3)", -1, x.behind(0, 3));
        DUE.is("behind(0, -2)", -1, x.behind(0, -2));
        DUE.is("nothing went by", 0, x.count(3) + x.count(6));
        DUE.wrongsAre("behind", "0,50,-10", x);
        x.pass(6);
        DUE.is("behind(1, 1) of day 6", 612, x.behind(1, 1));
    }

    private static void right() {
        TaughtClocks x = Due.laid("c0,103,10;c0,150,10;c0,40,10;");
        DUE.is("right(60, 0)", 0, x.right(60, 0));
        DUE.is("right(60, 1)", -4, x.right(60, 1));
        DUE.is("right(59, 0)", 1, x.right(59, 0));
        DUE.is("right(59, 1)", 2, x.right(59, 1));
        DUE.is("right(59, 2)", -4, x.right(59, 2));
        DUE.is("right(50, 1)", 2, x.right(50, 1));
        // Behind 0 to 1 it goes on with 0 to 2; behind 0 to 2 would come later.
        DUE.is("right(49, 0)", 2, x.right(49, 0));
        DUE.is("right(49, 1)", 1, x.right(49, 1));
        DUE.is("right(49, 2)", 2, x.right(49, 2));
        DUE.is("right(3, 0)", 2, x.right(3, 0));
        DUE.is("right(2, 0)", -4, x.right(2, 0));
        DUE.is("right(2, 1)", -4, x.right(2, 1));
        DUE.is("right(2, 2)", -4, x.right(2, 2));
        DUE.is("right(101, 0)", -1, x.right(101, 0));
        DUE.is("right(-1, 0)", -1, x.right(-1, 0));
        DUE.is("right(2, 3)", -1, x.right(2, 3));
        DUE.is("right(2, -1)", -1, x.right(2, -1));
        DUE.is("right(100, 0)", 0, x.right(100, 0));
        DUE.wrongsAre("right", "3,50,-60", x);
        // 2 teaches 0; then 0, that is right, comes ahead of 2 as teacher of 1.
        x = Due.laid("c0,150,10;c0,140,10;c3,100,10;");
        DUE.is("right(0, 0)", 2, x.right(0, 0));
        DUE.is("right(0, 1)", 20, x.right(0, 1));
        DUE.is("right(0, 2)", 1, x.right(0, 2));
        // By one lesson of a later one to 0.
        x = Due.laid("c0,150,10;c3,100,10;");
        DUE.is("right(0, 0) by 1", 1, x.right(0, 0));
        DUE.is("right(0, 1) by 1", 10, x.right(0, 1));
        // What is tried first (0 to 1, 0 to 2) leaves no trace in what is tried later.
        x = Due.laid("c0,150,10;c0,101,10;c3,100,10;c0,140,10;");
        DUE.is("right(1, 0) of four", 2, x.right(1, 0));
        DUE.is("right(1, 1) of four", 10, x.right(1, 1));
        DUE.is("right(1, 2) of four", 3, x.right(1, 2));
        DUE.is("right(0, 0) of four", -4, x.right(0, 0));
        // A slow one, taught twice: 40, 20, 10.
        x = Due.laid("c0,100,10;c1,140,10;");
        DUE.is("right(10, 0)", 2, x.right(10, 0));
        DUE.is("right(10, 1)", 1, x.right(10, 1));
        DUE.is("right(10, 2)", 1, x.right(10, 2));
        DUE.is("right(9, 0)", -4, x.right(9, 0));
        DUE.is("right(20, 0)", 1, x.right(20, 0));
    }

    private static void rightOnSunday() {
        TaughtClocks x = Due.laid("c0,100,10;c4,140,10;c3,95,10;");
        DUE.is("right(5, 0) on day 0", -4, x.right(5, 0));
        x.pass(6);
        DUE.is("right(5, 0) on day 6", 1, x.right(5, 0));
        DUE.is("right(5, 1) on day 6", 1, x.right(5, 1));
        DUE.is("right(4, 0) on day 6", -4, x.right(4, 0));
    }

    private static void ring() {
        TaughtClocks x = Due.laid("c0,150,10;c0,100,10;c3,90,10;");
        // 0 1 2: 50, 50, 10; 0 2 1: 50, 10, -10.
        DUE.is("ring(0)", 70, x.ring(0));
        DUE.is("ring(1)", 0, x.ring(1));
        DUE.is("ring(2)", 2, x.ring(2));
        DUE.is("ring(3)", 1, x.ring(3));
        DUE.is("ring(4)", -4, x.ring(4));
        DUE.is("ring(7)", -4, x.ring(7));
        DUE.is("ring(8)", -1, x.ring(8));
        DUE.is("ring(-1)", -1, x.ring(-1));
        DUE.wrongsAre("ring", "50,0,-10", x);
        x.set(0);
        DUE.is("ring(0) of the set one", 10, x.ring(0));
        DUE.is("ring(2) of the set one", 1, x.ring(2));
        x.undo();
        DUE.is("ring(0) of it undone", 70, x.ring(0));
        x = Due.laid("c3,90,10;");
        DUE.is("ring(0) of one", 10, x.ring(0));
        DUE.is("ring(1) of one", 0, x.ring(1));
        DUE.is("ring(2) of one", -4, x.ring(2));
        // All alike: the first order of all.
        x = Due.laid("c0,101,10;".repeat(7));
        DUE.is("ring(0) of seven", 7, x.ring(0));
        for (int k = 1; k <= 7; k++) {
            DUE.is("ring(" + k + ") of seven", k - 1, x.ring(k));
        }
        // Cuckoos count up; the blind one, that is right, comes 2nd at best, and all begin behind it.
        x = Due.laid("c0,105,10;c2,150,10;c2,150,10;c3,100,10;c2,150,10;");
        DUE.is("ring(0) of cuckoos", 11, x.ring(0));
        int[] order = {0, 3, 1, 2, 4};
        for (int k = 1; k <= 5; k++) {
            DUE.is("ring(" + k + ") of cuckoos", order[k - 1], x.ring(k));
        }
        x = Due.laid("c0,100,10;c4,150,10;");
        DUE.is("ring(0) on day 0", 50, x.ring(0));
        x.pass(6);
        DUE.is("ring(0) on day 6", 0, x.ring(0));
    }

    private static void dull() {
        TaughtClocks x = Due.laid("c0,100,10;c0,110,10;c3,110,10;c4,110,10;c2,101,10;c2,102,10;c1,101,10;");
        // 0 is right; 4 would be 1 by 0, as it is; 5 would be 1; 6 goes no half of 1.
        DUE.is("dull", 4 + 8 + 16 + 64, x.dull());
        x.pass(6);
        DUE.is("dull on a Sunday", 4 + 16 + 64, x.dull());
        DUE.is("dull, alone", 1, Due.laid("c0,101,10;").dull());
        DUE.is("dull, alone and right", 0, Due.laid("c0,100,10;").dull());
        // -5 is less than 6, 5 is not less than -5.
        DUE.is("dull, either way", 2, Due.laid("c0,106,10;c0,95,10;").dull());
        DUE.is("dull, alike either way", 3, Due.laid("c0,105,10;c0,95,10;").dull());
    }

    private static void pairs() {
        TaughtClocks x = Due.laid("c0,100,10;c0,150,10;c0,145,10;c0,102,10;");
        DUE.is("pairs(-1)", 7, x.pairs(-1));
        int[] mates = {3, 2, 1, 0};
        for (int c = 0; c < 4; c++) {
            DUE.is("pairs(" + c + ")", mates[c], x.pairs(c));
        }
        x.set(3);
        x.teach(3, 1);
        DUE.is("pairs(-1) then", 45, x.pairs(-1));
        DUE.is("pairs(0) then", 1, x.pairs(0));
        x.undo();
        x.undo();
        DUE.is("pairs(-1) again", 7, x.pairs(-1));
        DUE.is("pairs(4)", -1, x.pairs(4));
        DUE.is("pairs(-2)", -1, x.pairs(-2));
        x = Due.laid("c0,100,10;c0,100,10;c0,100,10;");
        DUE.is("pairs(-1) of alike ones", 0, x.pairs(-1));
        DUE.is("pairs(0) of alike ones", 1, x.pairs(0));
        DUE.is("pairs(2) of alike ones", -4, x.pairs(2));
        x = Due.laid("c0,0,10;c0,100,10;c0,100,10;");
        DUE.is("pairs(0), left", -4, x.pairs(0));
        DUE.is("pairs(2) then", 1, x.pairs(2));
        // 0, 2, 4: 0 with 1, or 1 with 2: the former, as 0 is left behind all.
        x = Due.laid("c0,100,10;c0,102,10;c0,104,10;");
        DUE.is("pairs(0) of two ways", 1, x.pairs(0));
        DUE.is("pairs(2) of two ways", -4, x.pairs(2));
        x = Due.laid("c0,1,10;");
        DUE.is("pairs(-1) of one", 0, x.pairs(-1));
        DUE.is("pairs(0) of one", -4, x.pairs(0));
        x = Due.laid("c0,101,1;c0,190,1;c0,141,1;c0,102,1;c0,143,1;c0,199,1;c0,130,1;");
        DUE.is("pairs(-1) of seven", 12, x.pairs(-1));
        int[] seven = {3, 5, 4, 0, 2, 1, -4};
        for (int c = 0; c < 7; c++) {
            DUE.is("pairs(" + c + ") of seven", seven[c], x.pairs(c));
        }
    }

    private static void oils() {
        TaughtClocks x = Due.laid("c0,100,20;c0,100,0;c0,100,10;c0,130,12;");
        DUE.is("oils(0, 1, 10)", 0, x.oils(0, 1, 10));
        DUE.is("oils(0, 1, 9)", 1, x.oils(0, 1, 9));
        DUE.is("oils(0, 30, 100)", 7, x.oils(0, 30, 100));
        DUE.is("oils(0, 30, 0)", 10, x.oils(0, 30, 0));
        DUE.is("oils(1, 30, 0)", 10, x.oils(1, 30, 0));
        DUE.is("oils(1, 10, 50)", 5, x.oils(1, 10, 50));
        DUE.is("oils(2, 30, 0)", 0, x.oils(2, 30, 0));
        DUE.is("oils(3, 1, 29)", -4, x.oils(3, 1, 29));
        DUE.is("oils(3, 1, 30)", 2, x.oils(3, 1, 30));
        DUE.is("oils(3, 1, 31)", 1, x.oils(3, 1, 31));
        DUE.is("oils(4, 1, 0)", -1, x.oils(4, 1, 0));
        DUE.is("oils(-1, 1, 0)", -1, x.oils(-1, 1, 0));
        DUE.is("oils(0, 0, 0)", -1, x.oils(0, 0, 0));
        DUE.is("oils(0, 31, 0)", -1, x.oils(0, 31, 0));
        DUE.is("oils(0, 1, -1)", -1, x.oils(0, 1, -1));
        DUE.is("oils(0, 1, 101)", -1, x.oils(0, 1, 101));
        DUE.is("nothing is oiled", 20, x.clock(0, 2));
        DUE.is("nothing to be undone", 0, x.count(6));
    }
}
