import java.math.BigInteger;
import java.util.Arrays;

/** The bounds that the document's sentences on DRAUGHTS, a YEAR and KEPT name, and promises 25 to 29: a test each. */
public final class YearBoundsTest {
    private static final Due DUE = new Due();

    public static void main(String[] args) {
        draughtyDays();
        draughtsOfTen();
        draughtsNumbers();
        draughtsInLowestTerms();
        draughtsOfAllWallsOfADay();
        draughtsOfNoughtDays();
        draughtsFromTodayOn();
        draughtsRightAlone();
        yearNumbers();
        yearDraws();
        yearOfOneAndOfSixtyDays();
        yearTeachesAheadOfTheDay();
        yearOfThoseNotTaught();
        yearOfSundays();
        yearFromTodayOn();
        yearAtTheMost();
        sixHundredInAllThatComes();
        keepTwo();
        keepAllAsItStands();
        keepCanNotBeUndone();
        backLastFirst();
        backOfNothing();
        backNothingIsUndone();
        backLeavesHeardAndText();
        countNumbers();
        countAtLeastAndAtMost();
        DUE.end("YearBoundsTest");
    }

    private static void chance(String when, TaughtClocks x, int[] asked, long above, long below) {
        long common = BigInteger.valueOf(above).gcd(BigInteger.valueOf(below)).longValue();
        String call = when + ": draughts(" + asked[0] + ", " + asked[1] + ", " + asked[2] + ", ";
        DUE.is(call + "0)", above / common, x.draughts(asked[0], asked[1], asked[2], 0));
        DUE.is(call + "1)", below / common, x.draughts(asked[0], asked[1], asked[2], 1));
    }

    private static long power(int base, int n) {
        return n == 0 ? 1 : base * power(base, n - 1);
    }

    /** "on each of n (0 to 6) DAYS". */
    private static void draughtyDays() {
        TaughtClocks x = Due.laid("c0,101,10;c0,100,10;w0,1;");
        for (int n = -2; n <= 9; n++) {
            if (n < 0 || n > 6) {
                DUE.is("draughts(0, " + n + ", 5, 0)", -1, x.draughts(0, n, 5, 0));
                DUE.is("draughts(0, " + n + ", 5, 1)", -1, x.draughts(0, n, 5, 1));
            } else {
                chance("heard once", x, new int[] {0, n, 5}, power(2, n) - 1, power(2, n));
            }
        }
        // 3 apart they are 2 and 1, then 1 and 1, and 0 never: of six days it does not matter how many are heard.
        x = Due.laid("c0,103,10;c0,100,10;w0,1;");
        chance("never 0 again", x, new int[] {0, 6, 5}, 0, 1);
        chance("0 if none is heard", x, new int[] {1, 6, 5}, 1, 64);
    }

    /** "by x (0 to 10) of ten": 0 is never, 10 is always. */
    private static void draughtsOfTen() {
        for (int tenths = -2; tenths <= 12; tenths++) {
            for (int n = 0; n <= 6; n++) {
                TaughtClocks x = Due.laid("c0,101,10;c0,100,10;w0,1;");
                if (tenths < 0 || tenths > 10) {
                    DUE.is("draughts by " + tenths, -1, x.draughts(0, n, tenths, 0));
                } else {
                    chance("heard once", x, new int[] {0, n, tenths}, power(10, n) - power(tenths, n), power(10, n));
                    chance("right all along", x, new int[] {1, n, tenths}, 1, 1);
                }
            }
        }
    }

    /** "above (part = 0), below (1). BAD". */
    private static void draughtsNumbers() {
        TaughtClocks x = Due.laid("c0,101,10;c0,100,10;w0,1;");
        for (int part = -2; part <= 3; part++) {
            for (int c = -2; c <= 3; c++) {
                boolean told = (part == 0 || part == 1) && (c == 0 || c == 1);
                int due = !told ? -1 : part == 1 ? c == 0 ? 10 : 1 : c == 0 ? 7 : 1;
                DUE.is("draughts(" + c + ", 1, 3, " + part + ")", due, x.draughts(c, 1, 3, part));
            }
        }
        DUE.is("draughts(7, 1, 3, 0)", -1, x.draughts(7, 1, 3, 0));
    }

    /** "in lowest terms": by 2 alone, by 5 alone, by both; none is 0 of 1, all is 1 of 1. */
    private static void draughtsInLowestTerms() {
        TaughtClocks x = Due.laid("c0,101,10;c3,105,10;c0,100,10;w0,2;");
        int[] above = {1, 9, 4, 7, 3, 1, 2, 3, 1, 1, 0};
        int[] below = {1, 10, 5, 10, 5, 2, 5, 10, 5, 10, 1};
        for (int tenths = 0; tenths <= 10; tenths++) {
            DUE.is("above, by " + tenths, above[tenths], x.draughts(0, 1, tenths, 0));
            DUE.is("below, by " + tenths, below[tenths], x.draughts(0, 1, tenths, 1));
        }
        DUE.is("none, above", 0, x.draughts(1, 6, 5, 0));
        DUE.is("none, below", 1, x.draughts(1, 6, 5, 1));
        DUE.is("all, above", 1, x.draughts(2, 6, 7, 0));
        DUE.is("all, below", 1, x.draughts(2, 6, 7, 1));
        DUE.is("six days by 9, above", 468559, x.draughts(0, 6, 9, 0));
        DUE.is("six days by 9, below", 1000000, x.draughts(0, 6, 9, 1));
        DUE.is("six days by 8, above", 11529, x.draughts(0, 6, 8, 0));
        DUE.is("six days by 8, below", 15625, x.draughts(0, 6, 8, 1));
        DUE.is("six days by 5, above", 63, x.draughts(0, 6, 5, 0));
        DUE.is("six days by 5, below", 64, x.draughts(0, 6, 5, 1));
    }

    /** "nothing is heard through any WALL": all of a day, or none. */
    private static void draughtsOfAllWallsOfADay() {
        // 1 is right behind a day on which it hears both others: a minute back by each.
        TaughtClocks x = Due.laid("c0,100,10;c0,102,10;c0,100,10;w0,1;w1,2;");
        chance("both on one day", x, new int[] {1, 1, 5}, 1, 2);
        chance("both on one day", x, new int[] {1, 1, 3}, 7, 10);
        // Behind one such day 0 is 1 wrong, 1 and 2 are right; behind two 0 has heard 1 once more, and all are.
        chance("no such day", x, new int[] {0, 1, 4}, 4, 10);
        chance("none or both", x, new int[] {0, 2, 4}, 16 + 36, 100);
    }

    /** "n (0 ..": behind none it is as it stands. */
    private static void draughtsOfNoughtDays() {
        TaughtClocks x = Due.laid("c0,100,11;c0,101,9;w0,1;");
        for (int tenths = 0; tenths <= 10; tenths++) {
            chance("none", x, new int[] {0, 0, tenths}, 1, 1);
            chance("none", x, new int[] {1, 0, tenths}, 0, 1);
        }
        x.pass(1);
        chance("none, a day behind", x, new int[] {0, 0, 5}, 0, 1);
        x.set(1);
        chance("none, set", x, new int[] {1, 0, 5}, 1, 1);
    }

    /** "n .. DAYS from now on": lessons by today's number, day 0 behind day 13, gains as ever. */
    private static void draughtsFromTodayOn() {
        TaughtClocks x = Due.laid("c3,100,10;c0,150,10;c4,140,10;c0,110,8;l13,0,2;l0,0,1;");
        x.pass(12);
        x.teach(3, 1);
        chance("ahead of day 13", x, new int[] {2, 1, 5}, 0, 1);
        chance("behind day 13", x, new int[] {2, 2, 5}, 1, 1);
        chance("ahead of day 14", x, new int[] {1, 2, 5}, 0, 1);
        chance("behind day 14", x, new int[] {1, 3, 5}, 1, 1);
        x = Due.laid("c0,110,8;");
        int[] due = {0, 0, 0, 0, 0, 1, 0};
        for (int n = 0; n <= 6; n++) {
            chance("it gains", x, new int[] {0, n, 10}, due[n], 1);
        }
        DUE.is("no day goes by", 0, x.count(3));
    }

    /** "that a CLOCK is right": a minute off, either way, is not. */
    private static void draughtsRightAlone() {
        TaughtClocks x = Due.laid("c0,101,10;c0,99,10;c0,100,10;");
        chance("a minute ahead", x, new int[] {0, 6, 5}, 0, 1);
        chance("a minute behind", x, new int[] {1, 6, 5}, 0, 1);
        chance("right", x, new int[] {2, 6, 5}, 1, 1);
    }

    /** "z (0 to 9999) of n (1 to 60) DAYS"; "NOON (what = 0), right (1). BAD". */
    private static void yearNumbers() {
        int[] wild = {Integer.MIN_VALUE, -10000, -2, -1, 10000, 10001, 65536, Integer.MAX_VALUE};
        TaughtClocks x = Due.laid("c3,107,10;c3,100,10;c3,108,10;");
        for (int what = -2; what <= 3; what++) {
            for (int n = -2; n <= 63; n++) {
                boolean told = (what == 0 || what == 1) && n >= 1 && n <= 60;
                int due = !told ? -1 : what == 0 ? 607 : 1;
                DUE.is("year(9999, " + n + ", " + what + ")", due, x.year(9999, n, what));
            }
        }
        for (int z : wild) {
            DUE.is("year(" + z + ", 1, 0)", -1, x.year(z, 1, 0));
            DUE.is("year(" + z + ", 60, 1)", -1, x.year(z, 60, 1));
            DUE.is("year(0, " + z + ", 0)", -1, x.year(0, z, 0));
            DUE.is("year(0, 1, " + z + ")", -1, x.year(0, 1, z));
        }
        DUE.is("year(0, 1, 0)", 607, x.year(0, 1, 0));
        DUE.is("year(9999, 60, 0)", 607, x.year(9999, 60, 0));
        DUE.is("no day goes by", 0, x.count(3) + x.count(6));
    }

    private static int draw(int z, int k) {
        BigInteger x = BigInteger.valueOf(7919L * z + 6151L * k + 1);
        return x.multiply(x).mod(BigInteger.valueOf(65521)).intValueExact() / 8;
    }

    /** "CLOCK DRAW modulo as many as there are teaches CLOCK (DRAW by 8, cut) modulo as many, if they are unlike". */
    private static void yearDraws() {
        for (int many = 1; many <= 7; many++) {
            for (int z : new int[] {0, 1, 2, 5, 6, 7, 40, 271, 272, 1000, 4321, 7777, 9998, 9999}) {
                StringBuilder text = new StringBuilder();
                int[] wrong = new int[many];
                for (int c = 0; c < many; c++) {
                    wrong[c] = (c * 3 + many) % 7 * 10;
                    text.append("c0,").append(100 + wrong[c]).append(",10;");
                }
                TaughtClocks x = Due.laid(text.toString());
                for (int n = 1; n <= 60; n++) {
                    int drawn = draw(z, n - 1);
                    wrong[drawn / 8 % many] = wrong[drawn % many];
                    DUE.is("year(" + z + ", " + n + ", 0) of " + many, 600 + middle(wrong), x.year(z, n, 0));
                    DUE.is("year(" + z + ", " + n + ", 1) of " + many, noughts(wrong), x.year(z, n, 1));
                }
            }
        }
    }

    private static int middle(int[] wrong) {
        int[] order = wrong.clone();
        Arrays.sort(order);
        return order[(order.length - 1) / 2];
    }

    private static int noughts(int[] wrong) {
        int many = 0;
        for (int w : wrong) {
            many += w == 0 ? 1 : 0;
        }
        return many;
    }

    /** A year of one day is one; of sixty it is sixty, whatever is drawn. */
    private static void yearOfOneAndOfSixtyDays() {
        TaughtClocks x = Due.laid("c0,100,11;");
        for (int n = 1; n <= 60; n++) {
            DUE.is("year(0, " + n + ", 0) of one", 600 + n, x.year(0, n, 0));
            DUE.is("year(9999, " + n + ", 1) of one", 0, x.year(9999, n, 1));
        }
        x = Due.laid("c3,40,11;c3,40,11;c3,40,11;");
        DUE.is("right behind 60 days", 3, x.year(5, 60, 1));
        DUE.is("right behind 59 days", 0, x.year(5, 59, 1));
    }

    /** "ahead of the k-th (0 first)": taught, then the day goes by, with its lessons, walls, gains. */
    private static void yearTeachesAheadOfTheDay() {
        // z 1, k 0: x 7920, DRAW 2850: of 2 it is 0 to 0, of 3 it is 0 to 2, of 4 it is 2 to 0, of 5 it is 0 to 1.
        DUE.is("DRAW", 2850, draw(1, 0));
        TaughtClocks x = Due.laid("c0,110,12;c3,150,10;c0,150,11;");
        DUE.is("0 to 2, then gains", 612, x.year(1, 1, 0));
        x = Due.laid("c0,110,12;c3,111,10;c0,150,11;");
        DUE.is("0 to 2, then gains: 12, 11, 11", 611, x.year(1, 1, 0));
        x = Due.laid("c0,110,10;c3,130,10;c0,150,10;l0,1,2;");
        DUE.is("0 to 2, then 1 to 2 as told", 630, x.year(1, 1, 0));
        x = Due.laid("c0,110,10;c3,130,10;c0,150,10;w1,2;");
        DUE.is("0 to 2, then heard: 10, 29, 11", 611, x.year(1, 1, 0));
    }

    /** "and that one can be taught then": a blind one is not; a slow one, a cuckoo are as ever. */
    private static void yearOfThoseNotTaught() {
        int[] due = {610, 625, 611, 640, 640};
        for (int kind = 0; kind <= 4; kind++) {
            TaughtClocks x = Due.laid("c0,110,10;c3,200,10;c" + kind + ",140,10;");
            DUE.is("0 to 2 of kind " + kind, due[kind], x.year(1, 1, 0));
        }
    }

    /** One of Sundays is taught by a draw of day 6, not of others. */
    private static void yearOfSundays() {
        for (int gone = 0; gone <= 20; gone++) {
            TaughtClocks x = Due.laid("c0,110,10;c3,200,10;c4,140,10;");
            if (gone > 0) {
                x.pass(gone);
            }
            DUE.is("0 to 2, day " + gone, gone % 7 == 6 ? 610 : 640, x.year(1, 1, 0));
        }
    }

    /** "n .. DAYS from now on": the k-th is 0 for today, though lessons go by today's number. */
    private static void yearFromTodayOn() {
        TaughtClocks x = Due.laid("c3,107,10;c0,150,10;l13,0,1;");
        x.pass(13);
        DUE.is("a lesson of day 13", 607, x.year(0, 1, 0));
        x = Due.laid("c3,107,10;c3,120,10;c0,150,10;l0,0,2;");
        x.pass(13);
        x.set(2);
        DUE.is("no lesson of day 13", 1, x.year(0, 1, 1));
        DUE.is("a lesson of day 14", 0, x.year(0, 2, 1));
        x = Due.laid("c0,110,10;c3,200,10;c0,140,10;");
        DUE.is("0 to 2 on day 0", 610, x.year(1, 1, 0));
        x.pass(5);
        DUE.is("0 to 2 on day 5", 610, x.year(1, 1, 0));
    }

    /** "NOON then, and 600": 0 and 1200 at the most. */
    private static void yearAtTheMost() {
        DUE.is("noon at the most", 1200, Due.laid("c0,200,20;").year(3, 60, 0));
        DUE.is("noon at the least", 0, Due.laid("c0,0,0;").year(3, 60, 0));
        DUE.is("a minute less", 1199, Due.laid("c0,199,20;").year(3, 50, 0));
        DUE.is("a minute less, a day behind", 1200, Due.laid("c0,199,20;").year(3, 51, 0));
        DUE.is("all seven right", 7, Due.laid("c0,100,10;".repeat(7)).year(9999, 60, 1));
    }

    /** "never more than 600, never less than 600 below 0", whatever asks about days to come. */
    private static void sixHundredInAllThatComes() {
        for (int up = 0; up <= 1; up++) {
            String far = up == 1 ? "c3,200,20;c3,0,0;" : "c3,0,0;c3,200,20;";
            TaughtClocks x = Due.laid(far + "c1,100,10;c3,110,10;l13,0,2;");
            for (int i = 0; i < 69; i++) {
                x.pass(1);
            }
            for (int i = 0; i < 12; i++) {
                x.teach(1, 2);
            }
            // It is 599 the other way now, and is taught by the one at 600 on day 69: half of the way is 599.
            DUE.is("599 the other way", up == 1 ? 1 : 1199, x.clock(2, 1));
            DUE.is("behind a day", 600, x.behind(1, 2));
            DUE.is("behind a day, noon", 600, x.behind(1, -1));
            DUE.is("oils for a day", 0, x.oils(2, 1, 0));
            chance("a day", x, new int[] {2, 1, 5}, 1, 1);
            // DRAW is 0: nobody is taught besides.
            DUE.is("year of a day", 600, x.year(0, 1, 0));
            DUE.is("right behind it", 1, x.year(0, 1, 1));
            x.hear(2, 600);
            DUE.is("by a lesson", 1, x.taught(0));
            DUE.is("by this lesson", 2, x.taught(1));
            DUE.is("pass", 70, x.pass(1));
            DUE.is("it is right", 600, x.clock(2, 1));
        }
    }

    /** "2 at most"; "how many. FULL". */
    private static void keepTwo() {
        TaughtClocks x = Due.laid("c0,100,11;");
        DUE.is("keep 1", 1, x.keep());
        x.pass(1);
        DUE.is("keep 2", 2, x.keep());
        x.pass(1);
        DUE.is("keep 3", -3, x.keep());
        DUE.is("keep 4", -3, x.keep());
        DUE.is("kept", 2, x.count(7));
        DUE.is("day", 2, x.count(3));
        DUE.is("can be undone", 2, x.count(6));
        DUE.is("back", 1, x.back());
        DUE.is("the second one, not what was refused", 1, x.count(3));
        DUE.is("keep again", 2, x.keep());
        DUE.is("keep again", -3, x.keep());
        DUE.is("back", 1, x.back());
        DUE.is("back", 0, x.back());
        DUE.is("the first one", 0, x.count(3));
    }

    /** "KEPT is all as it stands": days, minutes, gains; what comes then does not change it. */
    private static void keepAllAsItStands() {
        TaughtClocks x = Due.laid("c0,107,12;c4,150,8;l13,0,1;");
        x.pass(13);
        x.oil(0);
        String due = Sight.now(x);
        x.keep();
        x.oil(1);
        x.set(0);
        x.pass(20);
        x.undo();
        x.teach(1, 0);
        x.back();
        // It is kept no more, and nothing can be undone.
        DUE.is("back", due.replace("counts 2 0 1 13 0 0 2 0", "counts 2 0 1 13 0 0 0 0"), Sight.now(x));
        x.pass(1);
        DUE.wrongsAre("day 13 it is", "34,31", x);
    }

    /** What is kept can be undone behind it as ahead of it; keep and back are no step. */
    private static void keepCanNotBeUndone() {
        TaughtClocks x = Due.laid("c0,100,11;");
        x.pass(1);
        x.keep();
        DUE.is("can be undone", 1, x.count(6));
        DUE.is("undo", 0, x.undo());
        DUE.is("day", 0, x.count(3));
        DUE.is("kept still", 1, x.count(7));
        DUE.is("back", 0, x.back());
        DUE.is("day kept", 1, x.count(3));
        DUE.is("undo", -2, x.undo());
        DUE.is("day kept", 1, x.count(3));
    }

    /** "As KEPT last (it is KEPT no more then): how many are left". */
    private static void backLastFirst() {
        TaughtClocks x = Due.laid("c0,100,11;");
        x.pass(3);
        x.keep();
        x.pass(4);
        x.keep();
        x.pass(5);
        DUE.is("back, one left", 1, x.back());
        DUE.is("day", 7, x.count(3));
        DUE.is("kept", 1, x.count(7));
        DUE.is("back, none left", 0, x.back());
        DUE.is("day", 3, x.count(3));
        DUE.is("kept", 0, x.count(7));
        DUE.is("back of none", -2, x.back());
        DUE.is("day", 3, x.count(3));
    }

    /** "NO": it changes nothing, so that all can be undone still. */
    private static void backOfNothing() {
        TaughtClocks x = Due.laid("c0,100,11;");
        DUE.is("back at first", -2, x.back());
        x.pass(1);
        x.set(0);
        DUE.is("back of nothing", -2, x.back());
        DUE.is("can be undone", 2, x.count(6));
        DUE.is("undo", 1, x.undo());
        DUE.is("minutes", 601, x.clock(0, 1));
    }

    /** "nothing is UNDONE then": of eight steps none, and what comes then can be. */
    private static void backNothingIsUndone() {
        TaughtClocks x = Due.laid("c0,100,11;");
        x.keep();
        for (int i = 0; i < 8; i++) {
            x.pass(1);
        }
        DUE.is("can be undone", 8, x.count(6));
        DUE.is("back", 0, x.back());
        DUE.is("can be undone", 0, x.count(6));
        DUE.is("undo", -2, x.undo());
        DUE.is("day", 0, x.count(3));
        x.pass(2);
        DUE.is("undo", 0, x.undo());
        DUE.is("day", 0, x.count(3));
    }

    /** "but what is HEARD and THE TEXT (these stay by back()". */
    private static void backLeavesHeardAndText() {
        TaughtClocks x = Due.laid("c0,100,10;c0,101,10;");
        x.wipe();
        x.hear(0, 601);
        x.keep();
        x.hear(0, 601);
        x.hear(1, 601);
        x.write('c');
        x.write('0');
        DUE.is("back", 0, x.back());
        DUE.is("heard", 3, x.count(5));
        DUE.is("letters", 2, x.count(8));
        DUE.is("fault", 0, x.fault());
        DUE.is("all of it", 10, x.taught(1));
        x.keep();
        x.forget();
        x.wipe();
        DUE.is("back", 0, x.back());
        DUE.is("heard", 0, x.count(5));
        DUE.is("letters", 0, x.count(8));
    }

    /** "0 CLOCKS, .. 8 letters of THE TEXT. BAD". */
    private static void countNumbers() {
        TaughtClocks x = new TaughtClocks();
        int[] due = {-1, -1, 5, 3, 5, 0, 1, 0, 0, 0, 0, -1, -1};
        for (int what = -2; what <= 10; what++) {
            DUE.is("count(" + what + ")", due[what + 2], x.count(what));
        }
        for (int wild : new int[] {Integer.MIN_VALUE, -8, 16, 256, 65536, Integer.MAX_VALUE}) {
            DUE.is("count(" + wild + ")", -1, x.count(wild));
        }
    }

    /** Each count at its least and at its most. */
    private static void countAtLeastAndAtMost() {
        TaughtClocks least = Due.laid("c3,101,10;");
        least.wipe();
        TaughtClocks most = Due.laid("c3,100,10;".repeat(7) + "w5,6;".repeat(13) + "l9,0,1;".repeat(9));
        int[] dueOfLeast = {1, 0, 0, 0, 0, 0, 0, 0, 0};
        for (int what = 0; what <= 8; what++) {
            DUE.is("count(" + what + ") at the least", dueOfLeast[what], least.count(what));
        }
        for (int i = 0; i < 9; i++) {
            most.pass(20);
            most.hear(0, 0);
            most.keep();
        }
        int[] dueOfMost = {7, 1, 9, 180, 7, 6, 8, 2, 198};
        for (int what = 0; what <= 8; what++) {
            DUE.is("count(" + what + ") at the most", dueOfMost[what], most.count(what));
        }
    }
}
